/-! text: the words -/
def wlen (i : Nat) : Nat := ctab.getD (i + 1) 0 - ctab.getD i 0
def wl (i k : Nat) : Nat := ltab.getD (ctab.getD i 0 + k) 0
/-- the first k letters of the word i stand from s on -/
def wdK (b : Nat → Nat) (s i : Nat) : Nat → Bool
  | 0 => true
  | k + 1 => wdK b s i k && decide (b (s + k) = wl i k)
def wd (b : Nat → Nat) (s e i : Nat) : Bool := decide (e - s = wlen i) && wdK b s i (wlen i)
def nmf (c : Nat → Bool) : Nat → Nat
  | 0 => 9
  | d + 1 => if c (9 - (d + 1)) = true then 9 - (d + 1) else nmf c d
def nm (b : Nat → Nat) (s e : Nat) : Nat := nmf (wd b s e) 9
theorem wdK_s {b : Nat → Nat} {s i k : Nat} (h : wdK b s i k = true) (h2 : b (s + k) = wl i k) : wdK b s i (k + 1) = true := by
  rw [wdK, h, decide_eq_true h2]; rfl
theorem wdK_n {b : Nat → Nat} {s i k : Nat} (h2 : b (s + k) ≠ wl i k) : ∀ d, wdK b s i (k + 1 + d) = false
  | 0 => by
    show wdK b s i (k + 1) = false
    rw [wdK, decide_eq_false h2, Bool.and_false]
  | d + 1 => by
    show wdK b s i (k + 1 + d + 1) = false
    rw [wdK, wdK_n h2 d, Bool.false_and]
theorem wt_1 : ∀ i, i < 9 → ctab.getD i 0 ≤ ctab.getD (i + 1) 0 ∧ ctab.getD (i + 1) 0 ≤ 41 ∧ wlen i ≤ 7 ∧ ex_len.getD i 0 = wlen i := by decide
theorem wt_2 : ∀ i, i < 9 → ∀ k, k < wlen i → wl i k < 128 := by decide
theorem wt_3 : ∀ i, i < 9 → ∀ k, k < wlen i → narrow .char (.int (o_i2c (((ex_byt.getD i []).getD k 0) &&& (nI 255)))) = .int (o_i2c (((ex_byt.getD i []).getD k 0) &&& (nI 255))) ∧ o_i2c (((ex_byt.getD i []).getD k 0) &&& (nI 255)) = nI (wl i k) := by decide +kernel
theorem wt_4 : narrow .byte (.int (nI 0)) = .int (nI 0) := by decide +kernel
theorem j_len {M : Hx} {i : Nat} (hi : i < 9) : FJ0_length_8abf5 (1000 + i) M = some (nI (wlen i), M) := by
  obtain ⟨-, -, t3, t4⟩ := wt_1 i hi
  have hc : (1000 ≤ 1000 + i ∧ 1000 + i < 1009) = True := eq_true ⟨by omega, by omega⟩
  have hc2 : (1010 ≤ 1000 + i + 10 ∧ 1000 + i + 10 < 1019) = True := eq_true ⟨by omega, by omega⟩
  have e1 : 1000 + i + 10 - 1010 = i := by omega
  have e2 : nI (wlen i) >>> (nI 0 &&& nI 31) = nI (wlen i) := by
    rw [nI_shr (by omega) (by decide), Nat.pow_zero, Nat.div_one]
  have e3 : FJ0_coder_7d493 (1000 + i) M = some (nI 0, M) := by
    rw [eJ0_coder_7d493, if_neg (by decide), if_pos ⟨by omega, by omega⟩, eJ0_coder_7d493_14, if_pos wt_4]
  rw [eJ0_length_8abf5, if_pos ⟨by omega, by omega⟩, if_pos ⟨by omega, by omega⟩, e3, e1, t4, decide_eq_true (show 1000 ≤ 1000 + i ∧ 1000 + i < 1009 from ⟨by omega, by omega⟩)]
  show some (nI (wlen i) >>> (nI 0 &&& nI 31), M) = _
  rw [e2]
theorem j_at {M : Hx} {i k : Nat} (hi : i < 9) (hk : k < wlen i) : FJ0_charAt_5068e (1000 + i) (nI k) M = some (nI (wl i k), M) := by
  obtain ⟨-, -, t3, t4⟩ := wt_1 i hi
  obtain ⟨t5, t6⟩ := wt_3 i hi k hk
  have e1 : 1000 + i + 10 - 1010 = i := by omega
  have hcl : (nI k).toNatClampNeg = k := nI_clamp (by omega)
  have e2 : FJ0_isLatin1_aae02 (1000 + i) M = some (nI 1, M) := by
    rw [eJ0_isLatin1_aae02, if_neg (by decide), if_pos ⟨by omega, by omega⟩, if_pos rfl, eJ0_isLatin1_aae02_18, if_pos (Or.inr rfl)]
  have e3 : FJ0_checkIndex_df160 (nI k) (nI (wlen i)) M = some ((), M) := by
    rw [eJ0_checkIndex_df160, eJ3_checkIndex_8e157, if_neg (nI_nlt (Nat.zero_le k) (by omega)), if_pos (nI_lt hk (by omega))]; rfl
  have e4 : FJ1_charAt_3b067 (1000 + i + 10) (nI k) M = some (nI (wl i k), M) := by
    rw [eJ1_charAt_3b067, if_pos ⟨by omega, by omega⟩, e1, t4, e3, hcl]
    show (if 1010 ≤ 1000 + i + 10 ∧ 1000 + i + 10 < 1019 ∧ ¬ nI k < nI 0 ∧ k < wlen i then _ else _) = _
    rw [if_pos ⟨by omega, by omega, nI_nlt (Nat.zero_le k) (by omega), hk⟩, if_pos t5, t6]
  rw [eJ0_charAt_5068e, decide_eq_true (show 1000 ≤ 1000 + i ∧ 1000 + i < 1009 from ⟨by omega, by omega⟩), e2]
  show (if nI 1 = nI 0 then none else if 1000 ≤ 1000 + i ∧ 1000 + i < 1009 then (bnd (FJ1_charAt_3b067 (1000 + i + 10) (nI k) M) (fun q2 => if narrow .char (.int q2.1) = .int q2.1 then some (q2.1, q2.2) else none) ()) else none) = _
  rw [if_neg (by decide), if_pos ⟨by omega, by omega⟩, e4]
  show (if narrow .char (.int (nI (wl i k))) = .int (nI (wl i k)) then some (nI (wl i k), M) else none) = _
  rw [← t6, if_pos t5]
/-- the class's word -/
theorem c_word {g : Gg} {b : Nat → Nat} {n s e i : Nat} (hT : Ta g n b) (h6 : g 18 6 = nI s) (h7 : g 18 7 = nI e) (hse : s ≤ e) (he : e ≤ n) (hi : i < 9) : FX5_isWord 18 (1000 + i) (mk g) = some (nI (wd b s e i).toNat, mk g) := by
  have hn := hT.1
  obtain ⟨-, -, t3, -⟩ := wt_1 i hi
  have hg := fun (x : Option (Int32 × Hx)) => (show gd (decide (1000 ≤ 1000 + i ∧ 1000 + i < 1009)) x = x by rw [decide_eq_true (show 1000 ≤ 1000 + i ∧ 1000 + i < 1009 from ⟨by omega, by omega⟩)]; rfl)
  have hl := fun M => j_len (M := M) hi
  by_cases hL : e - s = wlen i
  · have key : FX5_isWord_20 fu 18 (1000 + i) (nI 0) (mk g) = some (nI (wdK b s i (wlen i)).toNat, mk g) := by
      refine lp_0 (σ := Unit) (fun m k _ => FX5_isWord_20 m 18 (1000 + i) (nI k) (mk g)) (wlen i) (fun k _ => wdK b s i k = true) (fun o => o = some (nI (wdK b s i (wlen i)).toNat, mk g)) (s := ()) rfl (fu_l (by omega)) ?_ ?_
      · intro m k _ hk hI
        have hA := hT.a (p := s + k) (by omega)
        have hb := (hT.2.2 (s + k) (by omega)).1
        have hch := fun M => j_at (M := M) hi hk
        have hw := wt_2 i hi k hk
        by_cases hq : b (s + k) = wl i k
        · refine Or.inr ⟨(), ?_, wdK_s hI hq⟩
          rw [hq] at hA
          rw [eX5_isWord_20, hg, hl]
          simp -dsimp -implicitDefEqProofs (disch := omega) only [bnd_u, gd_t, if_true, if_false, ↓reduceIte, eq_self, true_or, or_true, false_or, or_false, not_true_eq_false, not_false_eq_true, and_true, true_and, and_false, false_and, reduceCtorEq, nI_ge, nI_le, nI_lt, nI_nlt, nI_ne, nI_te, nm_eq, mn_eq, nm_le, mn_le, nm_lt, mn_lt, pk_mul, nI_add, pk_sub, nI_clamp, hRd, hTS, h6, hA, hg, hch]
        · refine Or.inl ?_
          have hf := wdK_n (b := b) (s := s) (i := i) (k := k) hq (wlen i - (k + 1))
          rw [show k + 1 + (wlen i - (k + 1)) = wlen i by omega] at hf
          rw [hf, show (false).toNat = 0 from rfl]
          rw [eX5_isWord_20, hg, hl]
          simp -dsimp -implicitDefEqProofs (disch := omega) only [bnd_u, gd_t, if_true, if_false, ↓reduceIte, eq_self, true_or, or_true, false_or, or_false, not_true_eq_false, not_false_eq_true, and_true, true_and, and_false, false_and, reduceCtorEq, nI_ge, nI_le, nI_lt, nI_nlt, nI_ne, nI_te, nm_eq, mn_eq, nm_le, mn_le, nm_lt, mn_lt, pk_mul, nI_add, pk_sub, nI_clamp, hRd, hTS, h6, hA, hg, hch]
      · intro m _ hI
        rw [hI, show (true).toNat = 1 from rfl]
        rw [eX5_isWord_20, hg, hl]
        simp -dsimp -implicitDefEqProofs (disch := omega) only [bnd_u, gd_t, if_true, if_false, ↓reduceIte, eq_self, true_or, or_true, false_or, or_false, not_true_eq_false, not_false_eq_true, and_true, true_and, and_false, false_and, reduceCtorEq, nI_ge, nI_le, nI_lt, nI_nlt, nI_ne, nI_te, nm_eq, mn_eq, nm_le, mn_le, nm_lt, mn_lt, pk_mul, nI_add, pk_sub, nI_clamp, hRd]
    have ew : wd b s e i = wdK b s i (wlen i) := by rw [wd, decide_eq_true hL, Bool.true_and]
    rw [ew, ← key, eX5_isWord]
    simp -dsimp -implicitDefEqProofs (disch := omega) only [bnd_u, gd_t, if_true, if_false, ↓reduceIte, eq_self, true_or, or_true, false_or, or_false, not_true_eq_false, not_false_eq_true, and_true, true_and, and_false, false_and, reduceCtorEq, nI_ge, nI_le, nI_lt, nI_nlt, nI_ne, nI_te, nm_eq, mn_eq, nm_le, mn_le, nm_lt, mn_lt, pk_mul, nI_add, pk_sub, nI_clamp, hRd, h6, h7, hg, hl, hL]
  · have ew : wd b s e i = false := by rw [wd, decide_eq_false hL, Bool.false_and]
    rw [ew, show (false).toNat = 0 from rfl, eX5_isWord]
    simp -dsimp -implicitDefEqProofs (disch := omega) only [bnd_u, gd_t, if_true, if_false, ↓reduceIte, eq_self, true_or, or_true, false_or, or_false, not_true_eq_false, not_false_eq_true, and_true, true_and, and_false, false_and, reduceCtorEq, nI_ge, nI_le, nI_lt, nI_nlt, nI_ne, nI_te, nm_eq, mn_eq, nm_le, mn_le, nm_lt, mn_lt, pk_mul, nI_add, pk_sub, nI_clamp, hRd, h6, h7, hg, hl]
/-- the reference's -/
theorem m_n51 {g : Gg} {b : Nat → Nat} {n n2 s e i : Nat} (hT : Tb g n b) (hS : Cs g) (h14 : g 78 14 = nI e) (h15 : g 78 15 = nI s) (hse : s ≤ e) (he : e ≤ n) (hi : i < 9) (hL : e - s = wlen i) : ∀ (d fuel k : Nat), k + d = wlen i → d + 1 < fuel → wdK b s i k = true → FX9_nameHere_51 n2 fuel 78 (nI i) (nI 1) (nI k) (mk g) = FX9_nameHere_106 n2 78 (nI i) (nI (wdK b s i (wlen i)).toNat) (mk g)
  | 0, fuel, k, hk, hf, hI => by
    obtain ⟨m, rfl⟩ : ∃ m, fuel = m + 1 := ⟨fuel - 1, by omega⟩
    have hn := hT.1
    rw [show wlen i = k by omega, hI, show (true).toNat = 1 from rfl]
    simp -dsimp -implicitDefEqProofs (disch := omega) only [bnd_u, gd_t, if_true, if_false, ↓reduceIte, eq_self, true_or, or_true, false_or, or_false, not_true_eq_false, not_false_eq_true, and_true, true_and, and_false, false_and, reduceCtorEq, nI_ge, nI_le, nI_lt, nI_nlt, nI_ne, nI_te, nm_eq, mn_eq, nm_le, mn_le, nm_lt, mn_lt, pk_mul, nI_add, pk_sub, nI_clamp, eX9_nameHere_51, hMo, h14, h15]
  | d + 1, fuel, k, hk, hf, hI => by
    obtain ⟨m, rfl⟩ : ∃ m, fuel = m + 1 + 1 := ⟨fuel - 2, by omega⟩
    have hn := hT.1
    obtain ⟨t1, t2, t3, -⟩ := wt_1 i hi
    have hw := wt_2 i hi k (by omega)
    have hlen : wlen i = ctab.getD (i + 1) 0 - ctab.getD i 0 := rfl
    have hB := hT.a (p := s + k) (by omega)
    have hb := (hT.2.2 (s + k) (by omega)).1
    have s1 := hS.1 i (by omega)
    have s2 : g 84 (ctab.getD i 0 + k) = nI (wl i k) := hS.2 _ (by omega)
    by_cases hq : b (s + k) = wl i k
    · rw [← m_n51 hT hS h14 h15 hse he hi hL d (m + 1) (k + 1) (by omega) (by omega) (wdK_s hI hq)]
      rw [hq] at hB
      rw [eX9_nameHere_51]
      simp -dsimp -implicitDefEqProofs (disch := omega) only [bnd_u, gd_t, if_true, if_false, ↓reduceIte, eq_self, true_or, or_true, false_or, or_false, not_true_eq_false, not_false_eq_true, and_true, true_and, and_false, false_and, reduceCtorEq, nI_ge, nI_le, nI_lt, nI_nlt, nI_ne, nI_te, nm_eq, mn_eq, nm_le, mn_le, nm_lt, mn_lt, pk_mul, nI_add, pk_sub, nI_clamp, eX9_nameHere_99, hMo, h14, h15, hB, s1, s2]
    · have hff := wdK_n (b := b) (s := s) (i := i) (k := k) hq (wlen i - (k + 1))
      rw [show k + 1 + (wlen i - (k + 1)) = wlen i by omega] at hff
      rw [hff, show (false).toNat = 0 from rfl]
      have e2 : FX9_nameHere_51 n2 (m + 1) 78 (nI i) (nI 0) (nI (k + 1)) (mk g) = FX9_nameHere_106 n2 78 (nI i) (nI 0) (mk g) := by
        simp -dsimp -implicitDefEqProofs (disch := omega) only [bnd_u, gd_t, if_true, if_false, ↓reduceIte, eq_self, true_or, or_true, false_or, or_false, not_true_eq_false, not_false_eq_true, and_true, true_and, and_false, false_and, reduceCtorEq, nI_ge, nI_le, nI_lt, nI_nlt, nI_ne, nI_te, nm_eq, mn_eq, nm_le, mn_le, nm_lt, mn_lt, pk_mul, nI_add, pk_sub, nI_clamp, eX9_nameHere_51]
      rw [eX9_nameHere_51]
      simp -dsimp -implicitDefEqProofs (disch := omega) only [bnd_u, gd_t, if_true, if_false, ↓reduceIte, eq_self, true_or, or_true, false_or, or_false, not_true_eq_false, not_false_eq_true, and_true, true_and, and_false, false_and, reduceCtorEq, nI_ge, nI_le, nI_lt, nI_nlt, nI_ne, nI_te, nm_eq, mn_eq, nm_le, mn_le, nm_lt, mn_lt, pk_mul, nI_add, pk_sub, nI_clamp, eX9_nameHere_99, hMo, h14, h15, hB, s1, s2, e2]
def nmI (i : Nat) : Int32 := if i = 9 then mi 4 else nI i
theorem m_nm {g : Gg} {b : Nat → Nat} {n s e : Nat} (hT : Tb g n b) (hS : Cs g) (h14 : g 78 14 = nI e) (h15 : g 78 15 = nI s) (h16 : g 78 16 = nI 1) (hse : s ≤ e) (he : e ≤ n) : ∀ (d fuel : Nat), d ≤ 9 → d < fuel → FX9_nameHere_2 fuel 78 (nI (9 - d)) (mk g) = some (nmI (nmf (wd b s e) d), mk g)
  | 0, fuel, hd, hf => by
    obtain ⟨m, rfl⟩ : ∃ m, fuel = m + 1 := ⟨fuel - 1, by omega⟩
    show _ = some (mi 4, mk g)
    simp -dsimp -implicitDefEqProofs (disch := omega) only [bnd_u, gd_t, if_true, if_false, ↓reduceIte, eq_self, true_or, or_true, false_or, or_false, not_true_eq_false, not_false_eq_true, and_true, true_and, and_false, false_and, reduceCtorEq, nI_ge, nI_le, nI_lt, nI_nlt, nI_ne, nI_te, nm_eq, mn_eq, nm_le, mn_le, nm_lt, mn_lt, pk_mul, nI_add, pk_sub, nI_clamp, eX9_nameHere_2, eX9_nameHere_118]
  | d + 1, fuel, hd, hf => by
    obtain ⟨m, rfl⟩ : ∃ m, fuel = m + 1 := ⟨fuel - 1, by omega⟩
    have hn := hT.1
    obtain ⟨i, ei⟩ : ∃ i, i = 9 - (d + 1) := ⟨_, rfl⟩
    have hi : i < 9 := by omega
    have hi2 : 9 - d = i + 1 := by omega
    have ih := m_nm hT hS h14 h15 h16 hse he d m (by omega) (by omega)
    rw [hi2] at ih
    rw [nmf, ← ei]
    obtain ⟨t1, t2, t3, -⟩ := wt_1 i hi
    have hlen : wlen i = ctab.getD (i + 1) 0 - ctab.getD i 0 := rfl
    have s1 := hS.1 i (by omega)
    have s2 := hS.1 (i + 1) (by omega)
    revert s1 s2 t1 t2 hlen
    generalize ctab.getD i 0 = x
    generalize ctab.getD (i + 1) 0 = y
    intro t1 t2 hlen s1 s2
    by_cases hL : e - s = wlen i
    · have h51 := m_n51 (n2 := m) hT hS h14 h15 hse he hi hL (wlen i) fu 0 (by omega) (by rw [fu_1]; omega) rfl
      have ew : wd b s e i = wdK b s i (wlen i) := by rw [wd, decide_eq_true hL, Bool.true_and]
      have hxy : y - x = e - s := by omega
      rw [ew]
      cases hw : wdK b s i (wlen i)
      · rw [hw, show (false).toNat = 0 from rfl] at h51
        rw [if_neg (by decide), ← ih]
        simp -dsimp -implicitDefEqProofs (disch := omega) only [bnd_u, gd_t, if_true, if_false, ↓reduceIte, eq_self, true_or, or_true, false_or, or_false, not_true_eq_false, not_false_eq_true, and_true, true_and, and_false, false_and, reduceCtorEq, nI_ge, nI_le, nI_lt, nI_nlt, nI_ne, nI_te, nm_eq, mn_eq, nm_le, mn_le, nm_lt, mn_lt, pk_mul, nI_add, pk_sub, nI_clamp, eX9_nameHere_2, eX9_nameHere_48, eX9_nameHere_106, hMo, h14, h15, h16, s1, s2, hxy, h51]
      · rw [hw, show (true).toNat = 1 from rfl] at h51
        rw [if_pos rfl, nmI, if_neg (by omega)]
        simp -dsimp -implicitDefEqProofs (disch := omega) only [bnd_u, gd_t, if_true, if_false, ↓reduceIte, eq_self, true_or, or_true, false_or, or_false, not_true_eq_false, not_false_eq_true, and_true, true_and, and_false, false_and, reduceCtorEq, nI_ge, nI_le, nI_lt, nI_nlt, nI_ne, nI_te, nm_eq, mn_eq, nm_le, mn_le, nm_lt, mn_lt, pk_mul, nI_add, pk_sub, nI_clamp, eX9_nameHere_2, eX9_nameHere_48, eX9_nameHere_106, hMo, h14, h15, h16, s1, s2, hxy, h51]
    · have ew : wd b s e i = false := by rw [wd, decide_eq_false hL, Bool.false_and]
      have hxy : e - s ≠ y - x := by omega
      have e2 : FX9_nameHere_51 m fu 78 (nI i) (nI 0) (nI 0) (mk g) = FX9_nameHere_106 m 78 (nI i) (nI 0) (mk g) := by
        rw [fu_1]
        simp -dsimp -implicitDefEqProofs (disch := omega) only [bnd_u, gd_t, if_true, if_false, ↓reduceIte, eq_self, true_or, or_true, false_or, or_false, not_true_eq_false, not_false_eq_true, and_true, true_and, and_false, false_and, reduceCtorEq, nI_ge, nI_le, nI_lt, nI_nlt, nI_ne, nI_te, nm_eq, mn_eq, nm_le, mn_le, nm_lt, mn_lt, pk_mul, nI_add, pk_sub, nI_clamp, eX9_nameHere_51]
      rw [ew, if_neg (by decide), ← ih]
      simp -dsimp -implicitDefEqProofs (disch := omega) only [bnd_u, gd_t, if_true, if_false, ↓reduceIte, eq_self, true_or, or_true, false_or, or_false, not_true_eq_false, not_false_eq_true, and_true, true_and, and_false, false_and, reduceCtorEq, nI_ge, nI_le, nI_lt, nI_nlt, nI_ne, nI_te, nm_eq, mn_eq, nm_le, mn_le, nm_lt, mn_lt, pk_mul, nI_add, pk_sub, nI_clamp, eX9_nameHere_2, eX9_nameHere_48, eX9_nameHere_106, hMo, h14, h15, h16, s1, s2, e2]
theorem m_name {g : Gg} {b : Nat → Nat} {n s e : Nat} (hT : Tb g n b) (hS : Cs g) (h14 : g 78 14 = nI e) (h15 : g 78 15 = nI s) (h16 : g 78 16 = nI 1) (hse : s ≤ e) (he : e ≤ n) : FX9_nameHere 78 (mk g) = some (nmI (nm b s e), mk g) := by
  rw [eX9_nameHere]
  exact m_nm hT hS h14 h15 h16 hse he 9 fu (Nat.le_refl 9) (by decide)
theorem m_nameN {g : Gg} {k : Nat} (h16 : g 78 16 = nI k) (hk : k ≠ 1) (hk4 : k ≤ 4) : FX9_nameHere 78 (mk g) = some (mi 4, mk g) := by
  rw [eX9_nameHere, fu_1]
  simp -dsimp -implicitDefEqProofs (disch := omega) only [bnd_u, gd_t, if_true, if_false, ↓reduceIte, eq_self, true_or, or_true, false_or, or_false, not_true_eq_false, not_false_eq_true, and_true, true_and, and_false, false_and, reduceCtorEq, nI_ge, nI_le, nI_lt, nI_nlt, nI_ne, nI_te, nm_eq, mn_eq, nm_le, mn_le, nm_lt, mn_lt, pk_mul, nI_add, pk_sub, nI_clamp, eX9_nameHere_2, eX9_nameHere_118, hMo, h16]
/-- the first word that stands -/
theorem nmf_i {c : Nat → Bool} : ∀ (d : Nat), d ≤ 9 → (nmf c d = 9 ∧ ∀ j, 9 - d ≤ j → j < 9 → c j = false) ∨ (9 - d ≤ nmf c d ∧ nmf c d < 9 ∧ c (nmf c d) = true ∧ ∀ j, 9 - d ≤ j → j < nmf c d → c j = false)
  | 0, h => Or.inl ⟨rfl, fun j h1 h2 => absurd h1 (by omega)⟩
  | d + 1, h => by
    rw [nmf]
    cases hc : c (9 - (d + 1))
    · rw [if_neg (by decide)]
      have hj : ∀ j, 9 - (d + 1) ≤ j → (j = 9 - (d + 1) ∧ c j = false) ∨ 9 - d ≤ j := fun j hj => by
        by_cases e : j = 9 - (d + 1)
        · exact Or.inl ⟨e, by rw [e]; exact hc⟩
        · exact Or.inr (by omega)
      rcases nmf_i (c := c) d (by omega) with ⟨a1, a2⟩ | ⟨a1, a2, a3, a4⟩
      · refine Or.inl ⟨a1, fun j h1 h2 => ?_⟩
        rcases hj j h1 with h3 | h3
        · exact h3.2
        · exact a2 j h3 h2
      · refine Or.inr ⟨by omega, a2, a3, fun j h1 h2 => ?_⟩
        rcases hj j h1 with h3 | h3
        · exact h3.2
        · exact a4 j h3 h2
    · rw [if_pos rfl]
      exact Or.inr ⟨Nat.le_refl _, by omega, hc, fun j h1 h2 => absurd h1 (by omega)⟩
theorem nm_i (b : Nat → Nat) (s e : Nat) : (nm b s e = 9 ∧ ∀ j, j < 9 → wd b s e j = false) ∨ (nm b s e < 9 ∧ wd b s e (nm b s e) = true ∧ ∀ j, j < nm b s e → wd b s e j = false) := by
  rcases nmf_i (c := wd b s e) 9 (Nat.le_refl 9) with ⟨a1, a2⟩ | ⟨a1, a2, a3, a4⟩
  · exact Or.inl ⟨a1, fun j hj => a2 j (by omega) hj⟩
  · exact Or.inr ⟨a2, a3, fun j hj => a4 j (by omega) hj⟩
