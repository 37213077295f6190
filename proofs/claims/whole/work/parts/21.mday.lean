/-! the reference's hours -/
def Mw (v a : Nat → Int32) (h : Nat) (s : VA) : Prop := ∀ c, c < 15 → v (15 * h + c) = ho (s.1 c) ∧ a (15 * h + c) = nI (s.2 c)
theorem Mw.mo {v a v' a' : Nat → Int32} {h : Nat} {s : VA} (hs : Mw v a h s) (hv : ∀ j, 15 * h ≤ j → j < 15 * h + 15 → v' j = v j ∧ a' j = a j) : Mw v' a' h s := fun c hc => by
  rw [(hv (15 * h + c) (by omega) (by omega)).1, (hv (15 * h + c) (by omega) (by omega)).2]
  exact hs c hc
def Om (h : Nat) (g g' : Gg) : Prop := ∀ j, j < 15 * h → g' 85 j = g 85 j ∧ g' 86 j = g 86 j
theorem h_pt {g : Gg} {h i x y : Nat} {s : VA} (hw : Mw (g 85) (g 86) h s) (hi : i < 15) : Fr [85, 86] g (up (up g 85 (15 * h + i) (ho x)) 86 (15 * h + i) (nI y)) ∧ Om h g (up (up g 85 (15 * h + i) (ho x)) 86 (15 * h + i) (nI y)) ∧ Mw (up (up g 85 (15 * h + i) (ho x)) 86 (15 * h + i) (nI y) 85) (up (up g 85 (15 * h + i) (ho x)) 86 (15 * h + i) (nI y) 86) h (pt s.1 i x, pt s.2 i y) := by
  refine ⟨((Fr.refl).tr (Fr.c (l := [85, 86]) (by decide)) (fun c hc => ⟨hc, hc⟩)).tr (Fr.c (l := [85, 86]) (by decide)) (fun c hc => ⟨hc, hc⟩), fun j hj => ?_, fun c hc => ?_⟩
  · rw [up_n (show 85 ≠ 86 by decide), up_c, up_c, pk_un (by omega), pk_un (by omega), up_n (show 86 ≠ 85 by decide)]
    exact ⟨rfl, rfl⟩
  · rw [up_n (show 85 ≠ 86 by decide), up_c, up_c, up_n (show 86 ≠ 85 by decide)]
    by_cases e : c = i
    · subst e
      rw [pk_us, pk_us]
      dsimp only
      rw [pt_s, pt_s]
      exact ⟨rfl, rfl⟩
    · rw [pk_un (by omega), pk_un (by omega)]
      dsimp only
      rw [pt_n e, pt_n e]
      exact hw c hc
theorem Ms.f {l : List Nat} {g g' : Gg} {q : Nat → Nat} {K : Nat} (h : Ms g q K) (hf : Fr l g g') (hl : ∀ c ∈ [78, 79], c ∉ l) : Ms g' q K := by
  unfold Ms
  rw [hf 78 (hl 78 (by decide)), hf 79 (hl 79 (by decide))]
  exact h
/-- the reference's table of KEEPS -/
def Kp (g : Gg) : Prop := ∀ kd, kd < 4 → g 80 kd = nI (kp kd)
theorem h_tell {g : Gg} {q : Nat → Nat} {K h : Nat} {s : VA} (hM : Ms g q K) (hG : Gd q K) (hh : h < 10) (hok : VAok K 10 s) (hw : Mw (g 85) (g 86) h s) : ∃ g', FX9_tellings 78 (nI h) (mk g) = some ((), mk g') ∧ Fr [85, 86] g g' ∧ Om h g g' ∧ Mw (g' 85) (g' 86) h (tells q h (q 73) s) := by
  have hK := hG.K
  have hen := hG.en
  rw [eX9_tellings]
  refine lp_0 (σ := Gg) (fun n t u => FX9_tellings_2 n 78 (nI h) (nI t) (mk u)) (q 73) (fun t u => Fr [85, 86] g u ∧ Om h g u ∧ Mw (u 85) (u 86) h (tells q h t s)) (fun o => ∃ g', o = some ((), mk g') ∧ Fr [85, 86] g g' ∧ Om h g g' ∧ Mw (g' 85) (g' 86) h (tells q h (q 73) s)) ⟨Fr.refl, fun j _ => ⟨rfl, rfl⟩, hw⟩ (fu_l (by omega)) ?_ ?_
  · intro n t u ht ⟨i1, i2, i3⟩
    refine Or.inr ?_
    have hMu := hM.f i1 (by decide)
    have he := hG.e ht
    have hok2 := tells_ok (h := h) hG hok t (by omega)
    by_cases a1 : q (57 + 4 * t) = h
    · have hc := i3 (3 * q (57 + 4 * t + 1) + q (57 + 4 * t + 3)) (by omega)
      rw [← Nat.add_assoc] at hc
      by_cases a2 : (tells q h t s).1 (3 * q (57 + 4 * t + 1) + q (57 + 4 * t + 3)) = 0
      · rw [ho_0 a2] at hc
        refine ⟨u, ?_, i1, i2, ?_⟩
        · simp -dsimp -implicitDefEqProofs (disch := omega) only [bnd_u, gd_t, if_true, if_false, ↓reduceIte, eq_self, true_or, or_true, false_or, or_false, not_true_eq_false, not_false_eq_true, and_true, true_and, and_false, false_and, reduceCtorEq, nI_ge, nI_le, nI_lt, nI_nlt, nI_ne, nI_te, nm_eq, mn_eq, nm_le, mn_le, nm_lt, mn_lt, pk_mul, nI_add, pk_sub, nI_clamp, eX9_tellings_2, eX9_tellings_122, hMo, hMu.a, a1, hc.1]
        · rw [tells, tell1, if_neg (by omega)]; exact i3
      · have hb := h_pt (x := (tells q h t s).1 (3 * q (57 + 4 * t + 1) + q (57 + 4 * t + 3))) (y := (tells q h t s).2 (3 * q (57 + 4 * t + 1) + q (57 + 4 * t + 3))) i3 (show 3 * q (57 + 4 * t + 2) + q (57 + 4 * t + 3) < 15 by omega)
        have hv10 := hok2.2.1 (3 * q (57 + 4 * t + 1) + q (57 + 4 * t + 3))
        have hne : (ho ((tells q h t s).1 (3 * q (57 + 4 * t + 1) + q (57 + 4 * t + 3))) = mi 4) = False := by
          rw [ho_s (by omega)]; exact nm_eq (by omega) (by omega) (by omega)
        rw [← Nat.add_assoc] at hb
        refine ⟨_, ?_, i1.tr hb.1 (fun c hc => ⟨hc, hc⟩), fun j hj => ⟨(hb.2.1 j hj).1.trans (i2 j hj).1, (hb.2.1 j hj).2.trans (i2 j hj).2⟩, ?_⟩
        · have w2 : up u 85 (15 * h + 3 * q (57 + 4 * t + 2) + q (57 + 4 * t + 3)) (ho ((tells q h t s).1 (3 * q (57 + 4 * t + 1) + q (57 + 4 * t + 3)))) 86 (15 * h + 3 * q (57 + 4 * t + 1) + q (57 + 4 * t + 3)) = nI ((tells q h t s).2 (3 * q (57 + 4 * t + 1) + q (57 + 4 * t + 3))) := by
            rw [up_n (show 86 ≠ 85 by decide)]; exact hc.2
          simp -dsimp -implicitDefEqProofs (disch := omega) only [bnd_u, gd_t, if_true, if_false, ↓reduceIte, eq_self, true_or, or_true, false_or, or_false, not_true_eq_false, not_false_eq_true, and_true, true_and, and_false, false_and, reduceCtorEq, nI_ge, nI_le, nI_lt, nI_nlt, nI_ne, nI_te, nm_eq, mn_eq, nm_le, mn_le, nm_lt, mn_lt, pk_mul, nI_add, pk_sub, nI_clamp, eX9_tellings_2, eX9_tellings_122, hMo, hMu.a, a1, hc.1, hne, w2]
        · rw [tells, tell1, if_pos ⟨a1, by omega⟩]; exact hb.2.2
    · refine ⟨u, ?_, i1, i2, ?_⟩
      · simp -dsimp -implicitDefEqProofs (disch := omega) only [bnd_u, gd_t, if_true, if_false, ↓reduceIte, eq_self, true_or, or_true, false_or, or_false, not_true_eq_false, not_false_eq_true, and_true, true_and, and_false, false_and, reduceCtorEq, nI_ge, nI_le, nI_lt, nI_nlt, nI_ne, nI_te, nm_eq, mn_eq, nm_le, mn_le, nm_lt, mn_lt, pk_mul, nI_add, pk_sub, nI_clamp, eX9_tellings_2, eX9_tellings_122, hMo, hMu.a]
      · rw [tells, tell1, if_neg (fun h => a1 h.1)]; exact i3
  · intro n u ⟨i1, i2, i3⟩
    refine ⟨u, ?_, i1, i2, i3⟩
    simp -dsimp -implicitDefEqProofs (disch := omega) only [bnd_u, gd_t, if_true, if_false, ↓reduceIte, eq_self, true_or, or_true, false_or, or_false, not_true_eq_false, not_false_eq_true, and_true, true_and, and_false, false_and, reduceCtorEq, nI_ge, nI_le, nI_lt, nI_nlt, nI_ne, nI_te, nm_eq, mn_eq, nm_le, mn_le, nm_lt, mn_lt, pk_mul, nI_add, pk_sub, nI_clamp, eX9_tellings_2, hMo, (hM.f i1 (by decide)).a]
def Dm (g : Gg) (q : Nat → Nat) (K : Nat) : Prop := ∀ h, h < 10 → Mw (g 85) (g 86) h (day q K (h + 1))
theorem h_go {g : Gg} {q : Nat → Nat} {K : Nat} (hM : Ms g q K) (hG : Gd q K) (hk : Kp g) : ∃ g', FX9_hoursGo 78 (mk g) = some ((), mk g') ∧ Fr [85, 86] g g' ∧ Dm g' q K := by
  have hK := hG.K
  rw [eX9_hoursGo]
  refine lp_0 (σ := Gg) (fun n h u => FX9_hoursGo_2 n 78 (nI h) (mk u)) 10 (fun h u => Fr [85, 86] g u ∧ ∀ h', h' < h → Mw (u 85) (u 86) h' (day q K (h' + 1))) (fun o => ∃ g', o = some ((), mk g') ∧ Fr [85, 86] g g' ∧ Dm g' q K) ⟨Fr.refl, fun h' hh => absurd hh (by omega)⟩ (by decide) ?_ ?_
  · intro n h u hh ⟨i1, i2⟩
    refine Or.inr ?_
    have hok := day_ok hG h (by omega)
    have e0 : FX9_hoursGo_2 (n + 1) 78 (nI h) (mk u) = FX9_hoursGo_10 n fu 78 (nI h) (nI 0) (mk u) := by
      simp -dsimp -implicitDefEqProofs (disch := omega) only [bnd_u, gd_t, if_true, if_false, ↓reduceIte, eq_self, true_or, or_true, false_or, or_false, not_true_eq_false, not_false_eq_true, and_true, true_and, and_false, false_and, reduceCtorEq, nI_ge, nI_le, nI_lt, nI_nlt, nI_ne, nI_te, nm_eq, mn_eq, nm_le, mn_le, nm_lt, mn_lt, pk_mul, nI_add, pk_sub, nI_clamp, eX9_hoursGo_2]
    rw [e0]
    refine lp_0 (σ := Gg) (fun m c w => FX9_hoursGo_10 n m 78 (nI h) (nI c) (mk w)) 15 (fun c w => Fr [85, 86] u w ∧ Om h u w ∧ ∀ c', c' < c → w 85 (15 * h + c') = ho ((grow q K h (day q K h)).1 c') ∧ w 86 (15 * h + c') = nI ((grow q K h (day q K h)).2 c')) (fun o => ∃ s', o = FX9_hoursGo_2 n 78 (nI (h + 1)) (mk s') ∧ Fr [85, 86] g s' ∧ ∀ h', h' < h + 1 → Mw (s' 85) (s' 86) h' (day q K (h' + 1))) ⟨Fr.refl, fun j _ => ⟨rfl, rfl⟩, fun c hc => absurd hc (by omega)⟩ (by decide) ?_ ?_
    · intro m c w hc ⟨j1, j2, j3⟩
      refine Or.inr ?_
      have hMw := hM.f (i1.tr j1 (l := [85, 86]) (fun c hc => ⟨hc, hc⟩)) (by decide)
      have hkw : ∀ kd, kd < 4 → w 80 kd = nI (kp kd) := fun kd hkd => by
        rw [j1 80 (by decide), i1 80 (by decide)]; exact hk kd hkd
      have fin : ∀ (x y : Int32), x = ho ((grow q K h (day q K h)).1 c) → y = nI ((grow q K h (day q K h)).2 c) → Fr [85, 86] u (up (up w 85 (15 * h + c) x) 86 (15 * h + c) y) ∧ Om h u (up (up w 85 (15 * h + c) x) 86 (15 * h + c) y) ∧ ∀ c', c' < c + 1 → up (up w 85 (15 * h + c) x) 86 (15 * h + c) y 85 (15 * h + c') = ho ((grow q K h (day q K h)).1 c') ∧ up (up w 85 (15 * h + c) x) 86 (15 * h + c) y 86 (15 * h + c') = nI ((grow q K h (day q K h)).2 c') := by
        intro x y hx hy
        refine ⟨(j1.tr (Fr.c (l := [85, 86]) (by decide)) (fun c hc => ⟨hc, hc⟩)).tr (Fr.c (l := [85, 86]) (by decide)) (fun c hc => ⟨hc, hc⟩), fun j hj => ?_, fun c' hc' => ?_⟩
        · rw [up_n (show 85 ≠ 86 by decide), up_c, up_c, pk_un (by omega), pk_un (by omega), up_n (show 86 ≠ 85 by decide)]
          exact j2 j hj
        · rw [up_n (show 85 ≠ 86 by decide), up_c, up_c]
          by_cases e : c' = c
          · subst e
            rw [pk_us, pk_us]; exact ⟨hx, hy⟩
          · rw [pk_un (by omega), pk_un (by omega), up_n (show 86 ≠ 85 by decide)]
            exact j3 c' (by omega)
      by_cases h0 : h = 0
      · have hg : gw q K h (day q K h) c = false := by simp [gw, h0]
        refine ⟨_, ?_, fin (mi 4) (nI 0) ?_ ?_⟩
        · subst h0
          simp -dsimp -implicitDefEqProofs (disch := omega) only [bnd_u, gd_t, if_true, if_false, ↓reduceIte, eq_self, true_or, or_true, false_or, or_false, not_true_eq_false, not_false_eq_true, and_true, true_and, and_false, false_and, reduceCtorEq, nI_ge, nI_le, nI_lt, nI_nlt, nI_ne, nI_te, nm_eq, mn_eq, nm_le, mn_le, nm_lt, mn_lt, pk_mul, nI_add, pk_sub, nI_clamp, eX9_hoursGo_10, eX9_hoursGo_82, eX9_hoursGo_83, eX9_hoursGo_109, eX9_hoursGo_135, hMo]
        · simp [grow, hg, ho]
        · simp [grow, hg]
      · by_cases hcK : c / 3 < K
        · have hp1 := i2 (h - 1) (by omega) c hc
          rw [show h - 1 + 1 = h by omega, show 15 * (h - 1) + c = 15 * h + c - 15 by omega] at hp1
          have hu := j2 (15 * h + c - 15) (by omega)
          have v1 : w 85 (15 * h + c - 15) = ho ((day q K h).1 c) := hu.1.trans hp1.1
          have v2 : w 86 (15 * h + c - 15) = nI ((day q K h).2 c) := hu.2.trans hp1.2
          have ha := hok.2.2 c
          have hv := hok.2.1 c
          have hkk := (hG.k hcK).1
          have hkq := hkw (q (c / 3)) (by omega)
          have hk9 := kp_9 (q (c / 3))
          by_cases z : (day q K h).1 c = 0
          · have hg : gw q K h (day q K h) c = false := by simp [gw, z]
            refine ⟨_, ?_, fin (mi 4) (nI 0) ?_ ?_⟩
            · simp -dsimp -implicitDefEqProofs (disch := omega) only [bnd_u, gd_t, if_true, if_false, ↓reduceIte, eq_self, true_or, or_true, false_or, or_false, not_true_eq_false, not_false_eq_true, and_true, true_and, and_false, false_and, reduceCtorEq, nI_ge, nI_le, nI_lt, nI_nlt, nI_ne, nI_te, nm_eq, mn_eq, nm_le, mn_le, nm_lt, mn_lt, pk_mul, nI_add, pk_sub, nI_clamp, eX9_hoursGo_10, eX9_hoursGo_82, eX9_hoursGo_83, eX9_hoursGo_109, eX9_hoursGo_135, hMo, hMw.1, pk_div, v1, ho_0 z]
            · simp [grow, hg, ho]
            · simp [grow, hg]
          · rw [ho_s (show 0 < (day q K h).1 c by omega)] at v1
            by_cases y : (day q K h).2 c + 1 ≤ kp (q (c / 3))
            · have hg : gw q K h (day q K h) c = true := by simp [gw, hcK, y]; omega
              refine ⟨_, ?_, fin (nI ((day q K h).1 c - 1)) (nI ((day q K h).2 c + 1)) ?_ ?_⟩
              · have w2 : up w 85 (15 * h + c) (nI ((day q K h).1 c - 1)) 86 (15 * h + c - 15) = nI ((day q K h).2 c) := by
                  rw [up_n (show 86 ≠ 85 by decide)]; exact v2
                simp -dsimp -implicitDefEqProofs (disch := omega) only [bnd_u, gd_t, if_true, if_false, ↓reduceIte, eq_self, true_or, or_true, false_or, or_false, not_true_eq_false, not_false_eq_true, and_true, true_and, and_false, false_and, reduceCtorEq, nI_ge, nI_le, nI_lt, nI_nlt, nI_ne, nI_te, nm_eq, mn_eq, nm_le, mn_le, nm_lt, mn_lt, pk_mul, nI_add, pk_sub, nI_clamp, eX9_hoursGo_10, eX9_hoursGo_83, eX9_hoursGo_109, eX9_hoursGo_135, hMo, hMw.1, hMw.a, pk_div, v1, v2, w2, hkq]
              · simp [grow, hg, ho, z]
              · simp [grow, hg]
            · have hg : gw q K h (day q K h) c = false := by simp [gw]; omega
              refine ⟨_, ?_, fin (mi 4) (nI 0) ?_ ?_⟩
              · simp -dsimp -implicitDefEqProofs (disch := omega) only [bnd_u, gd_t, if_true, if_false, ↓reduceIte, eq_self, true_or, or_true, false_or, or_false, not_true_eq_false, not_false_eq_true, and_true, true_and, and_false, false_and, reduceCtorEq, nI_ge, nI_le, nI_lt, nI_nlt, nI_ne, nI_te, nm_eq, mn_eq, nm_le, mn_le, nm_lt, mn_lt, pk_mul, nI_add, pk_sub, nI_clamp, eX9_hoursGo_10, eX9_hoursGo_82, eX9_hoursGo_83, eX9_hoursGo_109, eX9_hoursGo_135, hMo, hMw.1, hMw.a, pk_div, v1, v2, hkq]
              · simp [grow, hg, ho]
              · simp [grow, hg]
        · have hg : gw q K h (day q K h) c = false := by simp [gw, hcK]
          refine ⟨_, ?_, fin (mi 4) (nI 0) ?_ ?_⟩
          · simp -dsimp -implicitDefEqProofs (disch := omega) only [bnd_u, gd_t, if_true, if_false, ↓reduceIte, eq_self, true_or, or_true, false_or, or_false, not_true_eq_false, not_false_eq_true, and_true, true_and, and_false, false_and, reduceCtorEq, nI_ge, nI_le, nI_lt, nI_nlt, nI_ne, nI_te, nm_eq, mn_eq, nm_le, mn_le, nm_lt, mn_lt, pk_mul, nI_add, pk_sub, nI_clamp, eX9_hoursGo_10, eX9_hoursGo_82, eX9_hoursGo_83, eX9_hoursGo_109, eX9_hoursGo_135, hMo, hMw.1, pk_div]
          · simp [grow, hg, ho]
          · simp [grow, hg]
    · intro m w ⟨j1, j2, j3⟩
      have f1 := i1.tr j1 (l := [85, 86]) (fun c hc => ⟨hc, hc⟩)
      have hMw := hM.f f1 (by decide)
      have hd := m_does hMw hG hh
      have hgok := grow_ok (q := q) (h := h) hok
      have key : ∃ w2, FX9_hoursGo_10 n (m + 1) 78 (nI h) (nI 15) (mk w) = FX9_hoursGo_208 n 78 (nI h) (mk w2) ∧ Fr [85, 86] w w2 ∧ Om h w w2 ∧ Mw (w2 85) (w2 86) h (lookq q h (grow q K h (day q K h))) := by
        unfold lookq
        cases hdd : dsee q h <;> rw [hdd] at hd
        · refine ⟨w, ?_, Fr.refl, fun j _ => ⟨rfl, rfl⟩, j3⟩
          simp -dsimp -implicitDefEqProofs (disch := omega) only [bnd_u, gd_t, if_true, if_false, ↓reduceIte, eq_self, true_or, or_true, false_or, or_false, not_true_eq_false, not_false_eq_true, and_true, true_and, and_false, false_and, reduceCtorEq, nI_ge, nI_le, nI_lt, nI_nlt, nI_ne, nI_te, nm_eq, mn_eq, nm_le, mn_le, nm_lt, mn_lt, pk_mul, nI_add, pk_sub, nI_clamp, eX9_hoursGo_10, hMo, hd, Bool.toNat_false]
        · have hp := dsee_p hdd
          have hr := hG.r hh
          have hk' : q (26 + h) - 1 < K := by omega
          have hkk := hG.k hk'
          have hs := m_has hMw hh
          rw [hm_s hp] at hs
          have hv := m_value hMw hG (i := q (5 + (q (26 + h) - 1))) (T := h + 1) (by omega) (by omega)
          rw [hT_s] at hv
          have hb := h_pt (x := vl q (q (5 + (q (26 + h) - 1))) (h + 1) + 1) (y := 0) j3 (show 3 * (q (26 + h) - 1) + q (5 + (q (26 + h) - 1)) < 15 by omega)
          rw [ho_s (show 0 < vl q (q (5 + (q (26 + h) - 1))) (h + 1) + 1 by omega), Nat.add_sub_cancel, ← Nat.add_assoc] at hb
          have hs2 := m_has (hMw.f (Fr.c (l := [85, 86]) (c := 85) (r := upd (w 85) (15 * h + 3 * (q (26 + h) - 1) + q (5 + (q (26 + h) - 1))) (nI (vl q (q (5 + (q (26 + h) - 1))) (h + 1)))) (by decide)) (by decide)) hh
          rw [hm_s hp] at hs2
          refine ⟨_, ?_, hb.1, hb.2.1, ?_⟩
          · simp -dsimp -implicitDefEqProofs (disch := omega) only [bnd_u, gd_t, if_true, if_false, ↓reduceIte, eq_self, true_or, or_true, false_or, or_false, not_true_eq_false, not_false_eq_true, and_true, true_and, and_false, false_and, reduceCtorEq, nI_ge, nI_le, nI_lt, nI_nlt, nI_ne, nI_te, nm_eq, mn_eq, nm_le, mn_le, nm_lt, mn_lt, pk_mul, nI_add, pk_sub, nI_clamp, eX9_hoursGo_10, hMo, hd, hs, hs2, hMw.a, hv, Bool.toNat_true]
          · exact hb.2.2
      obtain ⟨w2, k1, k2, k3, k4⟩ := key
      have f2 := f1.tr k2 (l := [85, 86]) (fun c hc => ⟨hc, hc⟩)
      obtain ⟨w3, l1, l2, l3, l4⟩ := h_tell (hM.f f2 (by decide)) hG hh ((look_ok hG hh hgok).mo (by omega)) k4
      refine ⟨w3, ?_, f2.tr l2 (fun c hc => ⟨hc, hc⟩), fun h' hh' => ?_⟩
      · rw [k1]
        simp -dsimp -implicitDefEqProofs (disch := omega) only [bnd_u, gd_t, if_true, if_false, ↓reduceIte, eq_self, true_or, or_true, false_or, or_false, not_true_eq_false, not_false_eq_true, and_true, true_and, and_false, false_and, reduceCtorEq, nI_ge, nI_le, nI_lt, nI_nlt, nI_ne, nI_te, nm_eq, mn_eq, nm_le, mn_le, nm_lt, mn_lt, pk_mul, nI_add, pk_sub, nI_clamp, eX9_hoursGo_208, hMo, l1]
      · by_cases e : h' = h
        · subst e; exact l4
        · refine (i2 h' (by omega)).mo (fun j h1 h2 => ?_)
          have hj : j < 15 * h := by omega
          exact ⟨((l3 j hj).1.trans (k3 j hj).1).trans (j2 j hj).1, ((l3 j hj).2.trans (k3 j hj).2).trans (j2 j hj).2⟩
  · intro n u ⟨i1, i2⟩
    refine ⟨u, ?_, i1, i2⟩
    simp -dsimp -implicitDefEqProofs (disch := omega) only [bnd_u, gd_t, if_true, if_false, ↓reduceIte, eq_self, true_or, or_true, false_or, or_false, not_true_eq_false, not_false_eq_true, and_true, true_and, and_false, false_and, reduceCtorEq, nI_ge, nI_le, nI_lt, nI_nlt, nI_ne, nI_te, nm_eq, mn_eq, nm_le, mn_le, nm_lt, mn_lt, pk_mul, nI_add, pk_sub, nI_clamp, eX9_hoursGo_2]
