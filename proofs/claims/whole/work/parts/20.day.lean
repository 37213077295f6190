/-! beliefs: by hours. V: 0 nothing, else the value and 1; A: how old -/
def kp (kd : Nat) : Nat := if kd = 0 then 3 else if kd = 1 then 2 else if kd = 2 then 9 else 6
abbrev VA : Type := (Nat → Nat) × (Nat → Nat)
def pt (f : Nat → Nat) (i v : Nat) : Nat → Nat := fun j => if j = i then v else f j
theorem pt_s (f : Nat → Nat) (i v : Nat) : pt f i v i = v := if_pos rfl
theorem pt_n {f : Nat → Nat} {i j v : Nat} (h : j ≠ i) : pt f i v j = f j := if_neg h
def gw (q : Nat → Nat) (K h : Nat) (s : VA) (c : Nat) : Bool := (decide (0 < h) && decide (c / 3 < K)) && (decide (0 < s.1 c) && decide (s.2 c + 1 ≤ kp (q (c / 3))))
def grow (q : Nat → Nat) (K h : Nat) (s : VA) : VA := (fun c => if gw q K h s c then s.1 c else 0, fun c => if gw q K h s c then s.2 c + 1 else 0)
def lookq (q : Nat → Nat) (h : Nat) (s : VA) : VA := if dsee q h then (pt s.1 (3 * (q (26 + h) - 1) + q (5 + (q (26 + h) - 1))) (vl q (q (5 + (q (26 + h) - 1))) (h + 1) + 1), pt s.2 (3 * (q (26 + h) - 1) + q (5 + (q (26 + h) - 1))) 0) else s
def tell1 (q : Nat → Nat) (h n : Nat) (s : VA) : VA := if q (57 + 4 * n) = h ∧ 0 < s.1 (3 * q (57 + 4 * n + 1) + q (57 + 4 * n + 3)) then (pt s.1 (3 * q (57 + 4 * n + 2) + q (57 + 4 * n + 3)) (s.1 (3 * q (57 + 4 * n + 1) + q (57 + 4 * n + 3))), pt s.2 (3 * q (57 + 4 * n + 2) + q (57 + 4 * n + 3)) (s.2 (3 * q (57 + 4 * n + 1) + q (57 + 4 * n + 3)))) else s
def tells (q : Nat → Nat) (h : Nat) : Nat → VA → VA
  | 0, s => s
  | n + 1, s => tell1 q h n (tells q h n s)
/-- behind the hours below T -/
def day (q : Nat → Nat) (K : Nat) : Nat → VA
  | 0 => (fun _ => 0, fun _ => 0)
  | h + 1 => tells q h (q 73) (lookq q h (grow q K h (day q K h)))
/-- nothing is believed by those who aren't, values are values, nothing is older than the hour -/
def VAok (K T : Nat) (s : VA) : Prop := (∀ c, K ≤ c / 3 → s.1 c = 0) ∧ (∀ c, s.1 c ≤ 10) ∧ (∀ c, s.2 c ≤ T)
theorem grow_ok {q : Nat → Nat} {K h T : Nat} {s : VA} (hs : VAok K T s) : VAok K (T + 1) (grow q K h s) := by
  refine ⟨fun c hc => ?_, fun c => ?_, fun c => ?_⟩
  · show (if gw q K h s c then s.1 c else 0) = 0
    rw [hs.1 c hc]; split <;> rfl
  · show (if gw q K h s c then s.1 c else 0) ≤ 10
    have := hs.2.1 c
    split <;> omega
  · show (if gw q K h s c then s.2 c + 1 else 0) ≤ T + 1
    have := hs.2.2 c
    split <;> omega
theorem VAok_pt {K T i v a : Nat} {s : VA} (hs : VAok K T s) (hi : i / 3 < K) (hv : v ≤ 10) (ha : a ≤ T) : VAok K T (pt s.1 i v, pt s.2 i a) := by
  refine ⟨fun c hc => ?_, fun c => ?_, fun c => ?_⟩
  · dsimp only
    have e : c ≠ i := fun e => by subst e; omega
    rw [pt_n e]; exact hs.1 c hc
  · by_cases e : c = i
    · dsimp only
      rw [e, pt_s]; exact hv
    · dsimp only
      rw [pt_n e]; exact hs.2.1 c
  · by_cases e : c = i
    · dsimp only
      rw [e, pt_s]; exact ha
    · dsimp only
      rw [pt_n e]; exact hs.2.2 c
theorem dsee_p {q : Nat → Nat} {h : Nat} (hd : dsee q h = true) : 0 < q (26 + h) := by
  simp only [dsee, Bool.and_eq_true, decide_eq_true_eq] at hd
  exact hd.1
theorem look_ok {q : Nat → Nat} {K h T : Nat} {s : VA} (hG : Gd q K) (hh : h < 10) (hs : VAok K T s) : VAok K T (lookq q h s) := by
  unfold lookq
  split
  · rename_i hd
    have hp := dsee_p hd
    have hr := hG.r hh
    have hk := hG.k (show q (26 + h) - 1 < K by omega)
    have hv := vat_9 hG (i := q (5 + (q (26 + h) - 1))) (by omega) (h + 1) (q 25) (Nat.le_refl _)
    exact VAok_pt hs (by omega) (show vl q _ (h + 1) + 1 ≤ 10 by unfold vl; omega) (by omega)
  · exact hs
theorem tell1_ok {q : Nat → Nat} {K h n T : Nat} {s : VA} (hG : Gd q K) (hn : n < q 73) (hs : VAok K T s) : VAok K T (tell1 q h n s) := by
  unfold tell1
  have he := hG.e hn
  split
  · exact VAok_pt hs (by omega) (hs.2.1 _) (hs.2.2 _)
  · exact hs
theorem tells_ok {q : Nat → Nat} {K h T : Nat} {s : VA} (hG : Gd q K) (hs : VAok K T s) : ∀ n, n ≤ q 73 → VAok K T (tells q h n s)
  | 0, _ => hs
  | n + 1, hn => tell1_ok hG (by omega) (tells_ok hG hs n (by omega))
theorem day_ok {q : Nat → Nat} {K : Nat} (hG : Gd q K) : ∀ T, T ≤ 10 → VAok K T (day q K T)
  | 0, _ => ⟨fun _ _ => rfl, fun _ => Nat.zero_le _, fun _ => Nat.zero_le _⟩
  | h + 1, hT => tells_ok hG (look_ok hG (by omega) (grow_ok (day_ok hG h (by omega)))) _ (Nat.le_refl _)
/-! the class's day -/
def ag (s : VA) (c : Nat) : Int32 := if s.1 c = 0 then mi 4 else nI (s.2 c)
/-- the class's row of the hour h is s -/
def Cw (v a : Nat → Int32) (h : Nat) (s : VA) : Prop := ∀ c, c < 15 → v (15 * h + c) = ho (s.1 c) ∧ a (15 * h + c) = ag s c
theorem Cw.mo {v a v' a' : Nat → Int32} {h : Nat} {s : VA} (hs : Cw v a h s) (hv : ∀ j, 15 * h ≤ j → j < 15 * h + 15 → v' j = v j ∧ a' j = a j) : Cw v' a' h s := fun c hc => by
  rw [(hv (15 * h + c) (by omega) (by omega)).1, (hv (15 * h + c) (by omega) (by omega)).2]
  exact hs c hc
theorem ag_s {s : VA} {c : Nat} (h : ¬ s.1 c = 0) : ag s c = nI (s.2 c) := if_neg h
theorem ag_0 {s : VA} {c : Nat} (h : s.1 c = 0) : ag s c = mi 4 := if_pos h
theorem Cw_pt {v a : Nat → Int32} {h i x y : Nat} {s : VA} (hs : Cw v a h s) (hi : i < 15) (hx : 0 < x) : Cw (upd v (15 * h + i) (ho x)) (upd a (15 * h + i) (nI y)) h (pt s.1 i x, pt s.2 i y) := fun c hc => by
  by_cases e : c = i
  · subst e
    have e1 : (pt s.1 c x, pt s.2 c y).1 c = x := pt_s _ _ _
    have e2 : (pt s.1 c x, pt s.2 c y).2 c = y := pt_s _ _ _
    rw [pk_us, pk_us, ag_s (by rw [e1]; omega), e1, e2]
    exact ⟨rfl, rfl⟩
  · have e1 : (pt s.1 i x, pt s.2 i y).1 c = s.1 c := pt_n e
    have e2 : (pt s.1 i x, pt s.2 i y).2 c = s.2 c := pt_n e
    have h1 := hs c hc
    rw [pk_un (by omega), pk_un (by omega), e1]
    refine ⟨h1.1, h1.2.trans ?_⟩
    by_cases z : s.1 c = 0
    · rw [ag_0 z, ag_0 (by rw [e1]; exact z)]
    · rw [ag_s z, ag_s (by rw [e1]; exact z), e2]
theorem d_place {M : Hx} (k i h : Nat) : FX0_placeOf (nI k) (nI i) (nI h) M = some (nI (15 * h + (3 * k + i)), M) := by
  rw [eX0_placeOf, pk_mul, nI_add, pk_mul, nI_add, show (h * 5 + k) * 3 + i = 15 * h + (3 * k + i) by omega]
theorem d_val {g : Gg} {k i h : Nat} (hk : k < 5) (hi : i < 3) (hh : h < 10) : FX0_valueOf 35 (nI k) (nI i) (nI h) (mk g) = some (g 36 (15 * h + (3 * k + i)), mk g) := by
  simp -dsimp -implicitDefEqProofs (disch := omega) only [bnd_u, gd_t, if_true, if_false, ↓reduceIte, eq_self, true_or, or_true, false_or, or_false, not_true_eq_false, not_false_eq_true, and_true, true_and, and_false, false_and, reduceCtorEq, nI_ge, nI_le, nI_lt, nI_nlt, nI_ne, nI_te, nm_eq, mn_eq, nm_le, mn_le, nm_lt, mn_lt, pk_mul, nI_add, pk_sub, nI_clamp, eX0_valueOf, eX0_valueOf_35, d_place, hDay]
theorem d_age {g : Gg} {k i h : Nat} (hk : k < 5) (hi : i < 3) (hh : h < 10) : FX0_ageOf 35 (nI k) (nI i) (nI h) (mk g) = some (g 37 (15 * h + (3 * k + i)), mk g) := by
  simp -dsimp -implicitDefEqProofs (disch := omega) only [bnd_u, gd_t, if_true, if_false, ↓reduceIte, eq_self, true_or, or_true, false_or, or_false, not_true_eq_false, not_false_eq_true, and_true, true_and, and_false, false_and, reduceCtorEq, nI_ge, nI_le, nI_lt, nI_nlt, nI_ne, nI_te, nm_eq, mn_eq, nm_le, mn_le, nm_lt, mn_lt, pk_mul, nI_add, pk_sub, nI_clamp, eX0_ageOf, eX0_ageOf_35, d_place, hDay]
theorem d_bel {g : Gg} {j : Nat} {x y : Int32} (hj : j < 150) : FX0_believe 35 (nI j) x y (mk g) = some ((), mk (up (up g 36 j x) 37 j y)) := by
  simp -dsimp -implicitDefEqProofs (disch := omega) only [bnd_u, gd_t, if_true, if_false, ↓reduceIte, eq_self, true_or, or_true, false_or, or_false, not_true_eq_false, not_false_eq_true, and_true, true_and, and_false, false_and, reduceCtorEq, nI_ge, nI_le, nI_lt, nI_nlt, nI_ne, nI_te, nm_eq, mn_eq, nm_le, mn_le, nm_lt, mn_lt, pk_mul, nI_add, pk_sub, nI_clamp, eX0_believe, eX0_believe_27, hDay]
theorem f_keeps {g : Gg} {q : Nat → Nat} {K k : Nat} (hF : F1 g q K) (hG : Gd q K) (hk : k < 5) : FX1_keepsOf 1 (nI k) (mk g) = some (nI (if k < K then kp (q k) else 0), mk g) := by
  have hK := hG.K
  by_cases h : k < K
  · have h3 := (hG.k h).1
    have hg : ([3, 2, 9, 6] : List Int32).getD (q k) 0 = nI (kp (q k)) := by
      have : ∀ x : Fin 4, ([3, 2, 9, 6] : List Int32).getD x.val 0 = nI (kp x.val) := by decide +kernel
      exact this ⟨q k, by omega⟩
    simp -dsimp -implicitDefEqProofs (disch := omega) only [bnd_u, gd_t, if_true, if_false, ↓reduceIte, eq_self, true_or, or_true, false_or, or_false, not_true_eq_false, not_false_eq_true, and_true, true_and, and_false, false_and, reduceCtorEq, nI_ge, nI_le, nI_lt, nI_nlt, nI_ne, nI_te, nm_eq, mn_eq, nm_le, mn_le, nm_lt, mn_lt, pk_mul, nI_add, pk_sub, nI_clamp, eX1_keepsOf, eX1_keepsOf_27, hFam, f_kind hF hG h, h, hg, show (q k < 4) = True from eq_true (by omega)]
  · simp -dsimp -implicitDefEqProofs (disch := omega) only [bnd_u, gd_t, if_true, if_false, ↓reduceIte, eq_self, true_or, or_true, false_or, or_false, not_true_eq_false, not_false_eq_true, and_true, true_and, and_false, false_and, reduceCtorEq, nI_ge, nI_le, nI_lt, nI_nlt, nI_ne, nI_te, nm_eq, mn_eq, nm_le, mn_le, nm_lt, mn_lt, pk_mul, nI_add, pk_sub, nI_clamp, eX1_keepsOf, eX1_keepsOf_26, eX1_keepsOf_27, hFam, f_kindN hF (Or.inr ⟨nI_pos (show k < 2 ^ 31 by omega), nI_le (show K ≤ k by omega) (by omega)⟩), h]
theorem kp_9 (kd : Nat) : kp kd ≤ 9 := by
  unfold kp
  split
  · omega
  · split
    · omega
    · split <;> omega
/-- cells of the rows 36, 37 that are not of the hour h -/
def Ot (h : Nat) (g g' : Gg) : Prop := ∀ j, j < 15 * h → g' 36 j = g 36 j ∧ g' 37 j = g 37 j
theorem d_grow {g : Gg} {q : Nat → Nat} {K h : Nat} {s : VA} (hF : F1 g q K) (hG : Gd q K) (hh : h < 10) (hs : VAok K 9 s) (hp : ∀ h', h = h' + 1 → Cw (g 36) (g 37) h' s) : ∃ g', FX0_growOlder 35 1 (nI h) (mk g) = some ((), mk g') ∧ Fr [36, 37] g g' ∧ Ot h g g' ∧ Cw (g' 36) (g' 37) h (grow q K h s) := by
  have hK := hG.K
  -- the cells of the row below m are done
  let I : Nat → Gg → Prop := fun m u => Fr [36, 37] g u ∧ Ot h g u ∧ ∀ c, c < m → u 36 (15 * h + c) = ho ((grow q K h s).1 c) ∧ u 37 (15 * h + c) = ag (grow q K h s) c
  have step : ∀ (n2 n17 k i : Nat) (u : Gg), k < 5 → i < 3 → I (3 * k + i) u → ∃ u', FX0_growOlder_17 n2 (n17 + 1) 35 1 (nI h) (nI k) (nI (if k < K then kp (q k) else 0)) (nI i) (mk u) = FX0_growOlder_17 n2 n17 35 1 (nI h) (nI k) (nI (if k < K then kp (q k) else 0)) (nI (i + 1)) (mk u') ∧ I (3 * k + i + 1) u' := by
    intro n2 n17 k i u hk hi ⟨i1, i2, i3⟩
    have hkp : (if k < K then kp (q k) else 0) ≤ 9 := by
      have := kp_9 (q k)
      split <;> omega
    have hc3 : (3 * k + i) / 3 = k := by omega
    have fin : ∀ (x y : Int32), x = ho ((grow q K h s).1 (3 * k + i)) → y = ag (grow q K h s) (3 * k + i) → I (3 * k + i + 1) (up (up u 36 (15 * h + (3 * k + i)) x) 37 (15 * h + (3 * k + i)) y) := by
      intro x y hx hy
      refine ⟨(i1.tr (Fr.c (l := [36, 37]) (by decide)) (fun c hc => ⟨hc, hc⟩)).tr (Fr.c (l := [36, 37]) (by decide)) (fun c hc => ⟨hc, hc⟩), fun j hj => ?_, fun c hc => ?_⟩
      · rw [up_n (show 36 ≠ 37 by decide), up_c, up_c, pk_un (by omega), pk_un (by omega), up_n (show 37 ≠ 36 by decide)]
        exact i2 j hj
      · rw [up_n (show 36 ≠ 37 by decide), up_c, up_c]
        by_cases e : c = 3 * k + i
        · subst e
          rw [pk_us, pk_us]; exact ⟨hx, hy⟩
        · rw [pk_un (by omega), pk_un (by omega), up_n (show 37 ≠ 36 by decide)]
          exact i3 c (by omega)
    by_cases h0 : h = 0
    · have hg : gw q K h s (3 * k + i) = false := by simp [gw, h0]
      refine ⟨_, ?_, fin (mi 4) (mi 4) ?_ ?_⟩
      · subst h0
        simp -dsimp -implicitDefEqProofs (disch := omega) only [bnd_u, gd_t, if_true, if_false, ↓reduceIte, eq_self, true_or, or_true, false_or, or_false, not_true_eq_false, not_false_eq_true, and_true, true_and, and_false, false_and, reduceCtorEq, nI_ge, nI_le, nI_lt, nI_nlt, nI_ne, nI_te, nm_eq, mn_eq, nm_le, mn_le, nm_lt, mn_lt, pk_mul, nI_add, pk_sub, nI_clamp, eX0_growOlder_17, eX0_growOlder_71, eX0_growOlder_72, eX0_growOlder_97, eX0_growOlder_123, d_place, hDay]
      · simp [grow, hg, ho]
      · simp [grow, hg, ag]
    · have hp1 := hp (h - 1) (by omega) (3 * k + i) (by omega)
      have e15 : 15 * (h - 1) + (3 * k + i) = 15 * h + (3 * k + i) - 15 := by omega
      rw [e15] at hp1
      have hu := i2 (15 * h + (3 * k + i) - 15) (by omega)
      have v1 : u 36 (15 * h + (3 * k + i) - 15) = ho (s.1 (3 * k + i)) := hu.1.trans hp1.1
      have v2 : u 37 (15 * h + (3 * k + i) - 15) = ag s (3 * k + i) := hu.2.trans hp1.2
      by_cases z : s.1 (3 * k + i) = 0
      · have hg : gw q K h s (3 * k + i) = false := by simp [gw, z]
        refine ⟨_, ?_, fin (mi 4) (mi 4) ?_ ?_⟩
        · simp -dsimp -implicitDefEqProofs (disch := omega) only [bnd_u, gd_t, if_true, if_false, ↓reduceIte, eq_self, true_or, or_true, false_or, or_false, not_true_eq_false, not_false_eq_true, and_true, true_and, and_false, false_and, reduceCtorEq, nI_ge, nI_le, nI_lt, nI_nlt, nI_ne, nI_te, nm_eq, mn_eq, nm_le, mn_le, nm_lt, mn_lt, pk_mul, nI_add, pk_sub, nI_clamp, eX0_growOlder_17, eX0_growOlder_71, eX0_growOlder_72, eX0_growOlder_97, eX0_growOlder_123, d_place, hDay, v1, ho_0 z]
        · simp [grow, hg, ho]
        · simp [grow, hg, ag]
      · have hkK : k < K := by
          have h1 := hs.1 (3 * k + i)
          rw [hc3] at h1
          exact Nat.lt_of_not_le (fun h2 => z (h1 h2))
        have ha := hs.2.2 (3 * k + i)
        have hv := hs.2.1 (3 * k + i)
        rw [ho_s (show 0 < s.1 (3 * k + i) by omega)] at v1
        rw [ag_s z] at v2
        rw [if_pos hkK] at hkp ⊢
        by_cases y : s.2 (3 * k + i) + 1 ≤ kp (q k)
        · have hg : gw q K h s (3 * k + i) = true := by simp [gw, hc3, hkK, y]; omega
          refine ⟨_, ?_, fin (nI (s.1 (3 * k + i) - 1)) (nI (s.2 (3 * k + i) + 1)) ?_ ?_⟩
          · have w2 : up u 36 (15 * h + (3 * k + i)) (nI (s.1 (3 * k + i) - 1)) 37 (15 * h + (3 * k + i) - 15) = nI (s.2 (3 * k + i)) := by
              rw [up_n (show 37 ≠ 36 by decide)]; exact v2
            simp -dsimp -implicitDefEqProofs (disch := omega) only [bnd_u, gd_t, if_true, if_false, ↓reduceIte, eq_self, true_or, or_true, false_or, or_false, not_true_eq_false, not_false_eq_true, and_true, true_and, and_false, false_and, reduceCtorEq, nI_ge, nI_le, nI_lt, nI_nlt, nI_ne, nI_te, nm_eq, mn_eq, nm_le, mn_le, nm_lt, mn_lt, pk_mul, nI_add, pk_sub, nI_clamp, eX0_growOlder_17, eX0_growOlder_72, eX0_growOlder_97, eX0_growOlder_123, d_place, hDay, v1, v2, w2]
          · simp [grow, hg, ho, z]
          · simp [grow, hg, ag, z]
        · have hg : gw q K h s (3 * k + i) = false := by simp [gw, hc3]; omega
          refine ⟨_, ?_, fin (mi 4) (mi 4) ?_ ?_⟩
          · simp -dsimp -implicitDefEqProofs (disch := omega) only [bnd_u, gd_t, if_true, if_false, ↓reduceIte, eq_self, true_or, or_true, false_or, or_false, not_true_eq_false, not_false_eq_true, and_true, true_and, and_false, false_and, reduceCtorEq, nI_ge, nI_le, nI_lt, nI_nlt, nI_ne, nI_te, nm_eq, mn_eq, nm_le, mn_le, nm_lt, mn_lt, pk_mul, nI_add, pk_sub, nI_clamp, eX0_growOlder_17, eX0_growOlder_71, eX0_growOlder_72, eX0_growOlder_97, eX0_growOlder_123, d_place, hDay, v1, v2]
          · simp [grow, hg, ho]
          · simp [grow, hg, ag]
  rw [eX0_growOlder]
  refine lp_0 (σ := Gg) (fun n k u => FX0_growOlder_2 n 35 1 (nI h) (nI k) (mk u)) 5 (fun k u => I (3 * k) u) (fun o => ∃ g', o = some ((), mk g') ∧ Fr [36, 37] g g' ∧ Ot h g g' ∧ Cw (g' 36) (g' 37) h (grow q K h s)) ⟨Fr.refl, fun j hj => ⟨rfl, rfl⟩, fun c hc => absurd hc (by omega)⟩ (by decide) ?_ ?_
  · intro n k u hk hI
    refine Or.inr ?_
    have e1 : FX0_growOlder_2 (n + 1) 35 1 (nI h) (nI k) (mk u) = FX0_growOlder_17 n fu 35 1 (nI h) (nI k) (nI (if k < K then kp (q k) else 0)) (nI 0) (mk u) := by
      simp -dsimp -implicitDefEqProofs (disch := omega) only [bnd_u, gd_t, if_true, if_false, ↓reduceIte, eq_self, true_or, or_true, false_or, or_false, not_true_eq_false, not_false_eq_true, and_true, true_and, and_false, false_and, reduceCtorEq, nI_ge, nI_le, nI_lt, nI_nlt, nI_ne, nI_te, nm_eq, mn_eq, nm_le, mn_le, nm_lt, mn_lt, pk_mul, nI_add, pk_sub, nI_clamp, eX0_growOlder_2, hFam, f_keeps (hF.f hI.1 (by decide)) hG hk]
    rw [e1]
    refine lp_0 (σ := Gg) (fun m i u => FX0_growOlder_17 n m 35 1 (nI h) (nI k) (nI (if k < K then kp (q k) else 0)) (nI i) (mk u)) 3 (fun i u => I (3 * k + i) u) (fun o => ∃ s', o = FX0_growOlder_2 n 35 1 (nI h) (nI (k + 1)) (mk s') ∧ I (3 * (k + 1)) s') hI (by decide) ?_ ?_
    · intro m i u hi hI
      exact Or.inr (step n m k i u hk hi hI)
    · intro m u hI
      refine ⟨u, ?_, hI⟩
      simp -dsimp -implicitDefEqProofs (disch := omega) only [bnd_u, gd_t, if_true, if_false, ↓reduceIte, eq_self, true_or, or_true, false_or, or_false, not_true_eq_false, not_false_eq_true, and_true, true_and, and_false, false_and, reduceCtorEq, nI_ge, nI_le, nI_lt, nI_nlt, nI_ne, nI_te, nm_eq, mn_eq, nm_le, mn_le, nm_lt, mn_lt, pk_mul, nI_add, pk_sub, nI_clamp, eX0_growOlder_17]
  · intro n u hI
    refine ⟨u, ?_, hI.1, hI.2.1, fun c hc => hI.2.2 c (by omega)⟩
    simp -dsimp -implicitDefEqProofs (disch := omega) only [bnd_u, gd_t, if_true, if_false, ↓reduceIte, eq_self, true_or, or_true, false_or, or_false, not_true_eq_false, not_false_eq_true, and_true, true_and, and_false, false_and, reduceCtorEq, nI_ge, nI_le, nI_lt, nI_nlt, nI_ne, nI_te, nm_eq, mn_eq, nm_le, mn_le, nm_lt, mn_lt, pk_mul, nI_add, pk_sub, nI_clamp, eX0_growOlder_2]
theorem d_pt {g : Gg} {h i x y : Nat} {s : VA} (hw : Cw (g 36) (g 37) h s) (hi : i < 15) (hx : 0 < x) : Fr [36, 37] g (up (up g 36 (15 * h + i) (ho x)) 37 (15 * h + i) (nI y)) ∧ Ot h g (up (up g 36 (15 * h + i) (ho x)) 37 (15 * h + i) (nI y)) ∧ Cw (up (up g 36 (15 * h + i) (ho x)) 37 (15 * h + i) (nI y) 36) (up (up g 36 (15 * h + i) (ho x)) 37 (15 * h + i) (nI y) 37) h (pt s.1 i x, pt s.2 i y) := by
  refine ⟨((Fr.refl).tr (Fr.c (l := [36, 37]) (by decide)) (fun c hc => ⟨hc, hc⟩)).tr (Fr.c (l := [36, 37]) (by decide)) (fun c hc => ⟨hc, hc⟩), fun j hj => ?_, ?_⟩
  · rw [up_n (show 36 ≠ 37 by decide), up_c, up_c, pk_un (by omega), pk_un (by omega), up_n (show 37 ≠ 36 by decide)]
    exact ⟨rfl, rfl⟩
  · rw [up_n (show 36 ≠ 37 by decide), up_c, up_c, up_n (show 37 ≠ 36 by decide)]
    exact Cw_pt hw hi hx

theorem d_look1 {g : Gg} {q : Nat → Nat} {K c h : Nat} (hc : Rc c) (hF : F1 g q K) (hG : Gd q K) (hR : Ro (g c) q) (hh : h < 10) (hd : dsee q h = true) : FX0_lookOut 35 1 c (nI h) (mk g) = some ((), mk (up (up g 36 (15 * h + (3 * (q (26 + h) - 1) + q (5 + (q (26 + h) - 1)))) (nI (vl q (q (5 + (q (26 + h) - 1))) (h + 1)))) 37 (15 * h + (3 * (q (26 + h) - 1) + q (5 + (q (26 + h) - 1)))) (nI 0))) := by
  have hK := hG.K
  have hs := s_seer hc hF hG hR hh
  have hp := dsee_p hd
  have hr := hG.r hh
  have hk : q (26 + h) - 1 < K := by omega
  have hkk := hG.k hk
  have e : sv q h = nI (q (26 + h) - 1) := by simp [sv, hd]
  rw [e] at hs
  have hv := f_value hF hG (i := q (5 + (q (26 + h) - 1))) (T := h + 1) (by omega) (by omega)
  rw [hT_s] at hv
  simp -dsimp -implicitDefEqProofs (disch := omega) only [bnd_u, gd_t, if_true, if_false, ↓reduceIte, eq_self, true_or, or_true, false_or, or_false, not_true_eq_false, not_false_eq_true, and_true, true_and, and_false, false_and, reduceCtorEq, nI_ge, nI_le, nI_lt, nI_nlt, nI_ne, nI_te, nm_eq, mn_eq, nm_le, mn_le, nm_lt, mn_lt, pk_mul, nI_add, pk_sub, nI_clamp, eX0_lookOut, eX0_lookOut_45, hFam, hDay, hs, f_one hF hG hk, f_post hF hG hk, d_place, hv, d_bel]
theorem d_look2 {g : Gg} {q : Nat → Nat} {K h : Nat} {s : VA} (hG : Gd q K) (hh : h < 10) (hd : dsee q h = true) (hw : Cw (g 36) (g 37) h s) : Fr [36, 37] g (up (up g 36 (15 * h + (3 * (q (26 + h) - 1) + q (5 + (q (26 + h) - 1)))) (nI (vl q (q (5 + (q (26 + h) - 1))) (h + 1)))) 37 (15 * h + (3 * (q (26 + h) - 1) + q (5 + (q (26 + h) - 1)))) (nI 0)) ∧ Ot h g (up (up g 36 (15 * h + (3 * (q (26 + h) - 1) + q (5 + (q (26 + h) - 1)))) (nI (vl q (q (5 + (q (26 + h) - 1))) (h + 1)))) 37 (15 * h + (3 * (q (26 + h) - 1) + q (5 + (q (26 + h) - 1)))) (nI 0)) ∧ Cw (up (up g 36 (15 * h + (3 * (q (26 + h) - 1) + q (5 + (q (26 + h) - 1)))) (nI (vl q (q (5 + (q (26 + h) - 1))) (h + 1)))) 37 (15 * h + (3 * (q (26 + h) - 1) + q (5 + (q (26 + h) - 1)))) (nI 0) 36) (up (up g 36 (15 * h + (3 * (q (26 + h) - 1) + q (5 + (q (26 + h) - 1)))) (nI (vl q (q (5 + (q (26 + h) - 1))) (h + 1)))) 37 (15 * h + (3 * (q (26 + h) - 1) + q (5 + (q (26 + h) - 1)))) (nI 0) 37) h (lookq q h s) := by
  have hK := hG.K
  have hp := dsee_p hd
  have hr := hG.r hh
  have hk : q (26 + h) - 1 < K := by omega
  have hkk := hG.k hk
  have hb := d_pt (x := vl q (q (5 + (q (26 + h) - 1))) (h + 1) + 1) (y := 0) hw (show 3 * (q (26 + h) - 1) + q (5 + (q (26 + h) - 1)) < 15 by omega) (Nat.succ_pos _)
  rw [ho_s (show 0 < vl q (q (5 + (q (26 + h) - 1))) (h + 1) + 1 by omega), Nat.add_sub_cancel] at hb
  have e : lookq q h s = (pt s.1 (3 * (q (26 + h) - 1) + q (5 + (q (26 + h) - 1))) (vl q (q (5 + (q (26 + h) - 1))) (h + 1) + 1), pt s.2 (3 * (q (26 + h) - 1) + q (5 + (q (26 + h) - 1))) 0) := by
    unfold lookq
    rw [if_pos hd]
  rw [e]
  exact hb
theorem d_look {g : Gg} {q : Nat → Nat} {K c h : Nat} {s : VA} (hc : Rc c) (hF : F1 g q K) (hG : Gd q K) (hR : Ro (g c) q) (hh : h < 10) (hw : Cw (g 36) (g 37) h s) : ∃ g', FX0_lookOut 35 1 c (nI h) (mk g) = some ((), mk g') ∧ Fr [36, 37] g g' ∧ Ot h g g' ∧ Cw (g' 36) (g' 37) h (lookq q h s) := by
  cases hd : dsee q h
  · have hs := s_seer hc hF hG hR hh
    have e : sv q h = mi 4 := by simp [sv, hd]
    rw [e] at hs
    have hx : mi 4 < nI 0 := by decide
    have e2 : lookq q h s = s := by
      unfold lookq
      rw [hd]; rfl
    refine ⟨g, ?_, Fr.refl, fun j _ => ⟨rfl, rfl⟩, by rw [e2]; exact hw⟩
    simp -dsimp -implicitDefEqProofs (disch := omega) only [bnd_u, gd_t, if_true, if_false, ↓reduceIte, eq_self, true_or, or_true, false_or, or_false, not_true_eq_false, not_false_eq_true, and_true, true_and, and_false, false_and, reduceCtorEq, nI_ge, nI_le, nI_lt, nI_nlt, nI_ne, nI_te, nm_eq, mn_eq, nm_le, mn_le, nm_lt, mn_lt, pk_mul, nI_add, pk_sub, nI_clamp, eX0_lookOut, eX0_lookOut_45, hFam, hs, f_oneN hF (Or.inl hx)]
  · exact ⟨_, d_look1 hc hF hG hR hh hd, d_look2 hG hh hd hw⟩
theorem f_tell {g : Gg} {q : Nat → Nat} {K i j : Nat} (hF : F1 g q K) (hG : Gd q K) (hi : i < q 73) (hj : j < 4) : FX6_at 8 (nI i) (nI j) (mk g) = some (nI (q (57 + 4 * i + j)), mk g) := by
  rw [R_at rw8 hF.2.2.2.2.2.2.2.1 hG.en hi hj, hF.2.2.2.2.2.2.2.2.1 i j hi hj]

theorem d_pass {g : Gg} {q : Nat → Nat} {K h : Nat} {s : VA} (hF : F1 g q K) (hG : Gd q K) (hh : h < 10) (hok : VAok K 10 s) (hw : Cw (g 36) (g 37) h s) : ∃ g', FX0_passOn 35 1 (nI h) (mk g) = some ((), mk g') ∧ Fr [36, 37] g g' ∧ Ot h g g' ∧ Cw (g' 36) (g' 37) h (tells q h (q 73) s) := by
  have hK := hG.K
  have hen := hG.en
  rw [eX0_passOn]
  refine lp_0 (σ := Gg) (fun n t u => FX0_passOn_2 n 35 1 (nI h) (nI t) (mk u)) (q 73) (fun t u => Fr [36, 37] g u ∧ Ot h g u ∧ Cw (u 36) (u 37) h (tells q h t s)) (fun o => ∃ g', o = some ((), mk g') ∧ Fr [36, 37] g g' ∧ Ot h g g' ∧ Cw (g' 36) (g' 37) h (tells q h (q 73) s)) ⟨Fr.refl, fun j _ => ⟨rfl, rfl⟩, hw⟩ (fu_l (by omega)) ?_ ?_
  · intro n t u ht ⟨i1, i2, i3⟩
    refine Or.inr ?_
    have hFu := hF.f i1 (by decide)
    have he := hG.e ht
    have h0 := f_tell hFu hG ht (show 0 < 4 by omega)
    have h1 := f_tell hFu hG ht (show 1 < 4 by omega)
    have h2 := f_tell hFu hG ht (show 2 < 4 by omega)
    have h3 := f_tell hFu hG ht (show 3 < 4 by omega)
    rw [Nat.add_zero] at h0
    have hok2 := tells_ok (h := h) hG hok t (by omega)
    by_cases a1 : q (57 + 4 * t) = h
    · have hv := d_val (g := u) (show q (57 + 4 * t + 1) < 5 by omega) (show q (57 + 4 * t + 3) < 3 by omega) hh
      have ha := d_age (g := u) (show q (57 + 4 * t + 1) < 5 by omega) (show q (57 + 4 * t + 3) < 3 by omega) hh
      have hc := i3 (3 * q (57 + 4 * t + 1) + q (57 + 4 * t + 3)) (by omega)
      rw [hc.1] at hv
      rw [hc.2] at ha
      by_cases a2 : (tells q h t s).1 (3 * q (57 + 4 * t + 1) + q (57 + 4 * t + 3)) = 0
      · rw [ho_0 a2] at hv
        refine ⟨u, ?_, i1, i2, ?_⟩
        · simp -dsimp -implicitDefEqProofs (disch := omega) only [bnd_u, gd_t, if_true, if_false, ↓reduceIte, eq_self, true_or, or_true, false_or, or_false, not_true_eq_false, not_false_eq_true, and_true, true_and, and_false, false_and, reduceCtorEq, nI_ge, nI_le, nI_lt, nI_nlt, nI_ne, nI_te, nm_eq, mn_eq, nm_le, mn_le, nm_lt, mn_lt, pk_mul, nI_add, pk_sub, nI_clamp, eX0_passOn_2, eX0_passOn_100, hFam, hDay, hFu.2.2.2.2.2.2.2.1, h0, h1, h2, h3, a1, hv]
        · rw [tells, tell1, if_neg (by omega)]; exact i3
      · have hv10 := hok2.2.1 (3 * q (57 + 4 * t + 1) + q (57 + 4 * t + 3))
        have hb := d_pt (x := (tells q h t s).1 (3 * q (57 + 4 * t + 1) + q (57 + 4 * t + 3))) (y := (tells q h t s).2 (3 * q (57 + 4 * t + 1) + q (57 + 4 * t + 3))) i3 (show 3 * q (57 + 4 * t + 2) + q (57 + 4 * t + 3) < 15 by omega) (by omega)
        rw [ag_s a2] at ha
        have hne : (ho ((tells q h t s).1 (3 * q (57 + 4 * t + 1) + q (57 + 4 * t + 3))) = mi 4) = False := by
          rw [ho_s (by omega)]; exact nm_eq (by omega) (by omega) (by omega)
        refine ⟨_, ?_, i1.tr hb.1 (fun c hc => ⟨hc, hc⟩), fun j hj => ⟨(hb.2.1 j hj).1.trans (i2 j hj).1, (hb.2.1 j hj).2.trans (i2 j hj).2⟩, ?_⟩
        · simp -dsimp -implicitDefEqProofs (disch := omega) only [bnd_u, gd_t, if_true, if_false, ↓reduceIte, eq_self, true_or, or_true, false_or, or_false, not_true_eq_false, not_false_eq_true, and_true, true_and, and_false, false_and, reduceCtorEq, nI_ge, nI_le, nI_lt, nI_nlt, nI_ne, nI_te, nm_eq, mn_eq, nm_le, mn_le, nm_lt, mn_lt, pk_mul, nI_add, pk_sub, nI_clamp, eX0_passOn_2, eX0_passOn_100, hFam, hDay, hFu.2.2.2.2.2.2.2.1, h0, h1, h2, h3, a1, hv, ha, hne, d_place, d_bel]
        · rw [tells, tell1, if_pos ⟨a1, by omega⟩]; exact hb.2.2
    · refine ⟨u, ?_, i1, i2, ?_⟩
      · simp -dsimp -implicitDefEqProofs (disch := omega) only [bnd_u, gd_t, if_true, if_false, ↓reduceIte, eq_self, true_or, or_true, false_or, or_false, not_true_eq_false, not_false_eq_true, and_true, true_and, and_false, false_and, reduceCtorEq, nI_ge, nI_le, nI_lt, nI_nlt, nI_ne, nI_te, nm_eq, mn_eq, nm_le, mn_le, nm_lt, mn_lt, pk_mul, nI_add, pk_sub, nI_clamp, eX0_passOn_2, eX0_passOn_100, hFam, hDay, hFu.2.2.2.2.2.2.2.1, h0]
      · rw [tells, tell1, if_neg (fun h => a1 h.1)]; exact i3
  · intro n u ⟨i1, i2, i3⟩
    refine ⟨u, ?_, i1, i2, i3⟩
    simp -dsimp -implicitDefEqProofs (disch := omega) only [bnd_u, gd_t, if_true, if_false, ↓reduceIte, eq_self, true_or, or_true, false_or, or_false, not_true_eq_false, not_false_eq_true, and_true, true_and, and_false, false_and, reduceCtorEq, nI_ge, nI_le, nI_lt, nI_nlt, nI_ne, nI_te, nm_eq, mn_eq, nm_le, mn_le, nm_lt, mn_lt, pk_mul, nI_add, pk_sub, nI_clamp, eX0_passOn_2, hFam, (hF.f i1 (by decide)).2.2.2.2.2.2.2.1]
/-- the class's day as live leaves it -/
def Dy (g : Gg) (q : Nat → Nat) (K : Nat) : Prop := ∀ h, h < 10 → Cw (g 36) (g 37) h (day q K (h + 1))
theorem VAok.mo {K T T' : Nat} {s : VA} (h : VAok K T s) (hT : T ≤ T') : VAok K T' s := ⟨h.1, h.2.1, fun c => Nat.le_trans (h.2.2 c) hT⟩
theorem d_live {g : Gg} {q : Nat → Nat} {K c : Nat} (hc : Rc c) (hc2 : c ∉ [36, 37]) (hF : F1 g q K) (hG : Gd q K) (hR : Ro (g c) q) : ∃ g', FX0_live 35 1 c (mk g) = some ((), mk g') ∧ Fr [36, 37] g g' ∧ Dy g' q K := by
  rw [eX0_live]
  refine lp_0 (σ := Gg) (fun n h u => FX0_live_2 n 35 1 c (nI h) (mk u)) 10 (fun h u => Fr [36, 37] g u ∧ ∀ h', h' < h → Cw (u 36) (u 37) h' (day q K (h' + 1))) (fun o => ∃ g', o = some ((), mk g') ∧ Fr [36, 37] g g' ∧ Dy g' q K) ⟨Fr.refl, fun h' hh => absurd hh (by omega)⟩ (by decide) ?_ ?_
  · intro n h u hh ⟨i1, i2⟩
    refine Or.inr ?_
    have hok := day_ok hG h (by omega)
    obtain ⟨g1, e1, f1, o1, c1⟩ := d_grow (hF.f i1 (by decide)) hG hh (hok.mo (by omega)) (fun h' e => by
      have := i2 h' (by omega)
      rw [← e] at this; exact this)
    have f1' := i1.tr f1 (l := [36, 37]) (fun c hc => ⟨hc, hc⟩)
    obtain ⟨g2, e2, f2, o2, c2⟩ := d_look hc (hF.f f1' (by decide)) hG (hR.f f1' hc2) hh c1
    have f2' := f1'.tr f2 (l := [36, 37]) (fun c hc => ⟨hc, hc⟩)
    obtain ⟨g3, e3, f3, o3, c3⟩ := d_pass (hF.f f2' (by decide)) hG hh ((look_ok hG hh (grow_ok hok)).mo (by omega)) c2
    have f3' := f2'.tr f3 (l := [36, 37]) (fun c hc => ⟨hc, hc⟩)
    refine ⟨g3, ?_, f3', fun h' hh' => ?_⟩
    · simp -dsimp -implicitDefEqProofs (disch := omega) only [bnd_u, gd_t, if_true, if_false, ↓reduceIte, eq_self, true_or, or_true, false_or, or_false, not_true_eq_false, not_false_eq_true, and_true, true_and, and_false, false_and, reduceCtorEq, nI_ge, nI_le, nI_lt, nI_nlt, nI_ne, nI_te, nm_eq, mn_eq, nm_le, mn_le, nm_lt, mn_lt, pk_mul, nI_add, pk_sub, nI_clamp, eX0_live_2, hDay, e1, e2, e3]
    · by_cases e : h' = h
      · subst e; exact c3
      · refine (i2 h' (by omega)).mo (fun j h1 h2 => ?_)
        have hj : j < 15 * h := by omega
        exact ⟨((o3 j hj).1.trans (o2 j hj).1).trans (o1 j hj).1, ((o3 j hj).2.trans (o2 j hj).2).trans (o1 j hj).2⟩
  · intro n u ⟨i1, i2⟩
    refine ⟨u, ?_, i1, i2⟩
    simp -dsimp -implicitDefEqProofs (disch := omega) only [bnd_u, gd_t, if_true, if_false, ↓reduceIte, eq_self, true_or, or_true, false_or, or_false, not_true_eq_false, not_false_eq_true, and_true, true_and, and_false, false_and, reduceCtorEq, nI_ge, nI_le, nI_lt, nI_nlt, nI_ne, nI_te, nm_eq, mn_eq, nm_le, mn_le, nm_lt, mn_lt, pk_mul, nI_add, pk_sub, nI_clamp, eX0_live_2]
