/-! hand-overs that are missed: pure -/
def hov (q : Nat → Nat) (h : Nat) : Bool := decide (0 < q (26 + h)) && (decide (h = 0) || decide (q (25 + h) ≠ q (26 + h)))
/-- whether who has it got it, behind h hours; β: what is missed -/
def isb (q : Nat → Nat) (β : Nat → Bool) : Nat → Bool
  | 0 => false
  | h + 1 => if hov q h then !(β h) else isb q β h
theorem isb_cong {q : Nat → Nat} {β γ : Nat → Bool} : ∀ {n : Nat}, (∀ h, h < n → β h = γ h) → isb q β n = isb q γ n
  | 0, _ => rfl
  | n + 1, h => by rw [isb, isb, isb_cong (fun i hi => h i (by omega)), h n (by omega)]
def fc (q : Nat → Nat) (v n : Nat) (b : Bool) : Nat := if hov q n then (if b then v else 10 - v) else (if b then 0 else 1)
def pr (q : Nat → Nat) (v : Nat) : Nat → (Nat → Bool) → Nat
  | 0, _ => 1
  | n + 1, β => pr q v n β * fc q v n (β n)
theorem pr_cong {q : Nat → Nat} {v : Nat} {β γ : Nat → Bool} : ∀ {n : Nat}, (∀ h, h < n → β h = γ h) → pr q v n β = pr q v n γ
  | 0, _ => rfl
  | n + 1, h => by rw [pr, pr, pr_cong (fun i hi => h i (by omega)), h n (by omega)]
/-- the sum over all that may be missed in the first n hours -/
def SS (q : Nat → Nat) (v n : Nat) (P : (Nat → Bool) → Nat) : Nat := fb_sm (fun m => pr q v n m.testBit * P m.testBit) (2 ^ n)
def sb1 (β : Nat → Bool) (n : Nat) (b : Bool) : Nat → Bool := fun h => if h = n then b else β h
def Dp (n : Nat) (P : (Nat → Bool) → Nat) : Prop := ∀ β γ : Nat → Bool, (∀ h, h < n → β h = γ h) → P β = P γ
theorem fb_sm_mul (c : Nat) (f : Nat → Nat) : ∀ n, fb_sm (fun k => c * f k) n = c * fb_sm f n
  | 0 => by simp [fb_sm]
  | n + 1 => by rw [fb_sm_succ, fb_sm_succ, fb_sm_mul c f n, Nat.mul_add]
theorem SS_cong {q : Nat → Nat} {v n : Nat} {P R : (Nat → Bool) → Nat} (h : ∀ β, P β = R β) : SS q v n P = SS q v n R := by
  unfold SS
  exact fb_sm_cong (fun m _ => by rw [h])
theorem SS_add (q : Nat → Nat) (v n : Nat) (P R : (Nat → Bool) → Nat) : SS q v n (fun β => P β + R β) = SS q v n P + SS q v n R := by
  unfold SS
  rw [← fb_sm_add]
  exact fb_sm_cong (fun m _ => by rw [Nat.mul_add])
theorem SS_0 (q : Nat → Nat) (v n : Nat) : SS q v n (fun _ => 0) = 0 := by
  unfold SS
  rw [fb_sm_cong (g := fun _ => 0) (fun m _ => by rw [Nat.mul_zero]), fb_sm_const, Nat.mul_zero]
theorem SS_s {q : Nat → Nat} {v n : Nat} {P : (Nat → Bool) → Nat} (hP : Dp (n + 1) P) : SS q v (n + 1) P = fc q v n false * SS q v n (fun β => P (sb1 β n false)) + fc q v n true * SS q v n (fun β => P (sb1 β n true)) := by
  unfold SS
  rw [show 2 ^ (n + 1) = 2 ^ n + 2 ^ n by rw [Nat.pow_succ]; omega, fb_sm_split, ← fb_sm_mul, ← fb_sm_mul]
  congr 1
  · apply fb_sm_cong
    intro m hm
    have hb : m.testBit n = false := Nat.testBit_lt_two_pow hm
    rw [pr, hb]
    have e : P m.testBit = P (sb1 m.testBit n false) := hP _ _ (fun h _ => by
      unfold sb1
      by_cases e : h = n
      · rw [if_pos e, e, hb]
      · rw [if_neg e])
    show pr q v n m.testBit * fc q v n false * P m.testBit = fc q v n false * (pr q v n m.testBit * P (sb1 m.testBit n false))
    rw [← e, Nat.mul_comm (pr q v n m.testBit), Nat.mul_assoc]
  · apply fb_sm_cong
    intro m hm
    have hb : (2 ^ n + m).testBit n = true := by
      rw [Nat.testBit_two_pow_add_eq, Nat.testBit_lt_two_pow hm]; rfl
    have hl : ∀ h, h < n → (2 ^ n + m).testBit h = m.testBit h := fun h hh => Nat.testBit_two_pow_add_gt hh m
    rw [pr, hb, pr_cong hl]
    have e : P (2 ^ n + m).testBit = P (sb1 m.testBit n true) := hP _ _ (fun h hh => by
      unfold sb1
      by_cases e : h = n
      · rw [if_pos e, e, hb]
      · rw [if_neg e]; exact hl h (by omega))
    show pr q v n m.testBit * fc q v n true * P (2 ^ n + m).testBit = fc q v n true * (pr q v n m.testBit * P (sb1 m.testBit n true))
    rw [e, Nat.mul_comm (pr q v n m.testBit), Nat.mul_assoc]
/-- work i is wanted in the hour h, and its one sees then -/
def act (q : Nat → Nat) (i h : Nat) : Bool := (decide (q (36 + 4 * i + 1) ≤ h) && decide (h ≤ q (36 + 4 * i + 2))) && hks q (q (36 + 4 * i)) h
def ND (q : Nat → Nat) (i n : Nat) (β : Nat → Bool) : Bool := !(anyb (fun h => act q i h && isb q β (h + 1)) n)
theorem ND_s (q : Nat → Nat) (i n : Nat) (β : Nat → Bool) : ND q i (n + 1) β = (ND q i n β && !(act q i n && isb q β (n + 1))) := by
  unfold ND
  rw [anyb, Bool.not_or]
theorem ND_cong {q : Nat → Nat} {i n : Nat} {β γ : Nat → Bool} (h : ∀ j, j < n → β j = γ j) : ND q i n β = ND q i n γ := by
  unfold ND
  rw [anyb_cong (fun j hj => by rw [isb_cong (fun k hk => h k (by omega))])]
theorem sb1_lo {β : Nat → Bool} {n : Nat} {b : Bool} {h : Nat} (hh : h < n) : sb1 β n b h = β h := if_neg (by omega)
theorem isb_sb (q : Nat → Nat) (β : Nat → Bool) (n : Nat) (b : Bool) : isb q (sb1 β n b) (n + 1) = if hov q n then !b else isb q β n := by
  rw [isb, isb_cong (fun h hh => sb1_lo hh)]
  unfold sb1
  rw [if_pos rfl]
theorem ND_sb (q : Nat → Nat) (i n : Nat) (β : Nat → Bool) (b : Bool) : ND q i (n + 1) (sb1 β n b) = (ND q i n β && !(act q i n && (if hov q n then !b else isb q β n))) := by
  rw [ND_s, isb_sb, ND_cong (fun j hj => sb1_lo hj)]
/-- how often it isn't done; and of that, how often who has it last hasn't got it -/
def ae (q : Nat → Nat) (v i : Nat) : Nat → Nat × Nat
  | 0 => (1, 1)
  | n + 1 => (if hov q n then (if act q i n then v * (ae q v i n).1 else 10 * (ae q v i n).1) else (if act q i n then (ae q v i n).2 else (ae q v i n).1), if hov q n then v * (ae q v i n).1 else (ae q v i n).2)
theorem ae_ok {q : Nat → Nat} {v i : Nat} (hv : v ≤ 10) : ∀ n, SS q v n (fun β => (ND q i n β).toNat) = (ae q v i n).1 ∧ SS q v n (fun β => (ND q i n β && !isb q β n).toNat) = (ae q v i n).2
  | 0 => by
    have e : ∀ P : (Nat → Bool) → Nat, SS q v 0 P = P (Nat.testBit 0) := fun P => by
      show fb_sm _ (0 + 1) = _
      rw [fb_sm_succ]
      show 0 + 1 * _ = _
      omega
    rw [e, e]
    exact ⟨rfl, rfl⟩
  | n + 1 => by
    have ih := ae_ok hv n (q := q) (i := i)
    have d1 : Dp (n + 1) (fun β => (ND q i (n + 1) β).toNat) := fun β γ h => by
      dsimp only
      rw [ND_cong h]
    have d2 : Dp (n + 1) (fun β => (ND q i (n + 1) β && !isb q β (n + 1)).toNat) := fun β γ h => by
      dsimp only
      rw [ND_cong h, isb_cong h]
    rw [SS_s d1, SS_s d2, ae]
    dsimp only
    cases hh : hov q n
    · have f0 : fc q v n false = 1 := by simp [fc, hh]
      have f1 : fc q v n true = 0 := by simp [fc, hh]
      simp only [f0, f1, Nat.zero_mul, Nat.add_zero, Nat.one_mul]
      simp only [Bool.false_eq_true, if_false]
      refine ⟨?_, ?_⟩
      · cases ha : act q i n
        · simp only [Bool.false_eq_true, if_false]
          rw [← ih.1]
          refine SS_cong (fun β => ?_)
          rw [ND_sb, hh, ha]; simp
        · simp only [if_true]
          rw [← ih.2]
          refine SS_cong (fun β => ?_)
          rw [ND_sb, hh, ha]; simp
      · rw [← ih.2]
        refine SS_cong (fun β => ?_)
        rw [ND_sb, isb_sb, hh]
        cases ND q i n β <;> cases act q i n <;> cases isb q β n <;> rfl
    · have f0 : fc q v n false = 10 - v := by simp [fc, hh]
      have f1 : fc q v n true = v := by simp [fc, hh]
      rw [f0, f1]
      refine ⟨?_, ?_⟩
      · have e1 : SS q v n (fun β => (ND q i (n + 1) (sb1 β n true)).toNat) = (ae q v i n).1 := by
          rw [← ih.1]
          refine SS_cong (fun β => ?_)
          rw [ND_sb, hh]; simp
        rw [e1]
        cases ha : act q i n
        · have e0 : SS q v n (fun β => (ND q i (n + 1) (sb1 β n false)).toNat) = (ae q v i n).1 := by
            rw [← ih.1]
            refine SS_cong (fun β => ?_)
            rw [ND_sb, hh, ha]; simp
          rw [e0, ← Nat.add_mul, show 10 - v + v = 10 by omega]; rfl
        · have e0 : SS q v n (fun β => (ND q i (n + 1) (sb1 β n false)).toNat) = 0 := by
            rw [← SS_0 q v n]
            refine SS_cong (fun β => ?_)
            rw [ND_sb, hh, ha]; simp
          rw [e0, Nat.mul_zero, Nat.zero_add]; rfl
      · have e1 : SS q v n (fun β => (ND q i (n + 1) (sb1 β n true) && !isb q (sb1 β n true) (n + 1)).toNat) = (ae q v i n).1 := by
          rw [← ih.1]
          refine SS_cong (fun β => ?_)
          rw [ND_sb, isb_sb, hh]; simp
        have e0 : SS q v n (fun β => (ND q i (n + 1) (sb1 β n false) && !isb q (sb1 β n false) (n + 1)).toNat) = 0 := by
          rw [← SS_0 q v n]
          refine SS_cong (fun β => ?_)
          rw [ND_sb, isb_sb, hh]; simp
        rw [e0, e1, Nat.mul_zero, Nat.zero_add]; rfl
theorem SS_1 {q : Nat → Nat} {v : Nat} (hv : v ≤ 10) : ∀ n, SS q v n (fun _ => 1) = 10 ^ fb_ct (hov q) n
  | 0 => rfl
  | n + 1 => by
    rw [SS_s (fun _ _ _ => rfl), SS_1 hv n, fb_ct_succ]
    cases hh : hov q n
    · have f0 : fc q v n false = 1 := by simp [fc, hh]
      have f1 : fc q v n true = 0 := by simp [fc, hh]
      rw [f0, f1]; simp
    · have f0 : fc q v n false = 10 - v := by simp [fc, hh]
      have f1 : fc q v n true = v := by simp [fc, hh]
      rw [f0, f1, ← Nat.add_mul, show 10 - v + v = 10 by omega, if_pos rfl, Nat.pow_succ, Nat.mul_comm]
/-- the class's count of chances: how many, whether the one that goes on is counted -/
def ch (q : Nat → Nat) (i : Nat) : Nat → Nat × Bool
  | 0 => (0, false)
  | h + 1 => if q (26 + h) = q (36 + 4 * i) + 1 then (if (!(ch q i h).2 && act q i h) then ((ch q i h).1 + 1, true) else ch q i h) else ((ch q i h).1, false)
def cur (q : Nat → Nat) (i n : Nat) : Prop := 0 < n ∧ q (26 + (n - 1)) = q (36 + 4 * i) + 1
theorem ch_ok {q : Nat → Nat} {v i : Nat} : ∀ n, n ≤ 10 → (ch q i n).1 ≤ fb_ct (hov q) n ∧ (ae q v i n).1 = v ^ (ch q i n).1 * 10 ^ (fb_ct (hov q) n - (ch q i n).1) ∧ ((ch q i n).2 = true → cur q i n ∧ (ae q v i n).2 = (ae q v i n).1 ∧ 2 * (ch q i n).1 ≤ n + 1) ∧ (cur q i n → (ch q i n).2 = false → 10 * (ae q v i n).2 = v * (ae q v i n).1 ∧ (ch q i n).1 + 1 ≤ fb_ct (hov q) n ∧ 2 * (ch q i n).1 + 1 ≤ n) ∧ (¬ cur q i n → 2 * (ch q i n).1 ≤ n)
  | 0, _ => by
    refine ⟨Nat.le_refl _, rfl, fun h => (by cases h), fun h => absurd h.1 (by omega), fun _ => Nat.le_refl _⟩
  | n + 1, hn => by
    obtain ⟨h1, h2, h3, h4, h5⟩ := ch_ok (v := v) n (by omega) (q := q) (i := i)
    have hcur : cur q i (n + 1) ↔ q (26 + n) = q (36 + 4 * i) + 1 := ⟨fun h => h.2, fun h => ⟨by omega, h⟩⟩
    rw [hcur, ch, ae, fb_ct_succ]
    dsimp only
    by_cases hc : q (26 + n) = q (36 + 4 * i) + 1
    · rw [if_pos hc]
      by_cases hh : hov q n = true
      · -- a holding begins
        have hnc : ¬ cur q i n := fun hcu => by
          have e : 26 + (n - 1) = 25 + n := by have := hcu.1; omega
          have hcu2 := hcu.2
          rw [e] at hcu2
          have hcu1 := hcu.1
          simp only [hov, Bool.and_eq_true, Bool.or_eq_true, decide_eq_true_eq] at hh
          omega
        have hf : (ch q i n).2 = false := by
          cases e : (ch q i n).2
          · rfl
          · exact absurd (h3 e).1 hnc
        have h5' := h5 hnc
        rw [hh, hf]
        simp only [if_true, Bool.not_false, Bool.true_and]
        cases ha : act q i n
        · simp only [Bool.false_eq_true, if_false]
          refine ⟨by omega, ?_, fun h => (by rw [hf] at h; cases h), fun _ _ => ⟨?_, by omega, by omega⟩, fun h => absurd hc h⟩
          · rw [h2, show fb_ct (hov q) n + 1 - (ch q i n).1 = fb_ct (hov q) n - (ch q i n).1 + 1 by omega, Nat.pow_succ, Nat.mul_comm 10, Nat.mul_assoc]
          · rw [Nat.mul_left_comm]
        · simp only [if_true]
          refine ⟨by omega, ?_, fun _ => ⟨hc, by simp, by omega⟩, fun _ h => (by cases h), fun h => absurd hc h⟩
          rw [h2, show fb_ct (hov q) n + 1 - ((ch q i n).1 + 1) = fb_ct (hov q) n - (ch q i n).1 by omega, Nat.pow_succ, ← Nat.mul_assoc, Nat.mul_comm v]
      · -- it goes on
        have hh' : hov q n = false := by simpa using hh
        have hcu : cur q i n := by
          simp only [hov, Bool.and_eq_false_iff, Bool.or_eq_false_iff, decide_eq_false_iff_not] at hh'
          rcases hh' with h | ⟨h6, h7⟩
          · omega
          · refine ⟨by omega, ?_⟩
            rw [show 26 + (n - 1) = 25 + n by omega]
            omega
        rw [hh']
        simp only [Bool.false_eq_true, if_false, Nat.add_zero]
        cases hf : (ch q i n).2
        · obtain ⟨h4a, h4b, h4c⟩ := h4 hcu hf
          simp only [Bool.not_false, Bool.true_and]
          cases ha : act q i n
          · simp only [Bool.false_eq_true, if_false]
            refine ⟨h1, h2, fun h => (by rw [hf] at h; cases h), fun _ _ => ⟨h4a, h4b, by omega⟩, fun h => absurd hc h⟩
          · simp only [if_true]
            refine ⟨h4b, ?_, fun _ => ⟨hc, trivial, by omega⟩, fun _ h => (by cases h), fun h => absurd hc h⟩
            rw [h2, show fb_ct (hov q) n - (ch q i n).1 = fb_ct (hov q) n - ((ch q i n).1 + 1) + 1 by omega, Nat.pow_succ] at h4a
            have e : 10 * (ae q v i n).2 = 10 * (v ^ ((ch q i n).1 + 1) * 10 ^ (fb_ct (hov q) n - ((ch q i n).1 + 1))) := by
              rw [h4a, Nat.pow_succ]
              generalize v ^ (ch q i n).1 = A
              generalize 10 ^ (fb_ct (hov q) n - ((ch q i n).1 + 1)) = B
              rw [← Nat.mul_assoc, ← Nat.mul_assoc, ← Nat.mul_assoc, Nat.mul_comm _ 10, Nat.mul_comm v A, ← Nat.mul_assoc, ← Nat.mul_assoc]
            exact Nat.eq_of_mul_eq_mul_left (by decide) e
        · obtain ⟨h3a, h3b, h3c⟩ := h3 hf
          simp only [Bool.not_true, Bool.false_and, Bool.false_eq_true, if_false]
          refine ⟨h1, ?_, fun _ => ⟨hc, ?_, by omega⟩, fun _ h => (by rw [hf] at h; cases h), fun h => absurd hc h⟩
          · cases act q i n
            · exact h2
            · rw [← h2]; exact h3b
          · cases act q i n
            · exact h3b
            · rfl
    · rw [if_neg hc]
      have ha : act q i n = false := by
        simp only [act, hks, Bool.and_eq_false_iff, decide_eq_false_iff_not]
        exact Or.inr (Or.inr hc)
      rw [ha]
      have h2c : 2 * (ch q i n).1 ≤ n + 1 := by
        cases hf : (ch q i n).2
        · by_cases hcu : cur q i n
          · have := h4 hcu hf; omega
          · have := h5 hcu; omega
        · have := h3 hf; omega
      simp only [Bool.false_eq_true, if_false]
      cases hh : hov q n
      · simp only [Bool.false_eq_true, if_false, Nat.add_zero]
        exact ⟨h1, h2, fun h => (by cases h), fun h => absurd h hc, fun _ => h2c⟩
      · simp only [if_true]
        refine ⟨by omega, ?_, fun h => (by cases h), fun h => absurd h hc, fun _ => h2c⟩
        rw [h2, show fb_ct (hov q) n + 1 - (ch q i n).1 = fb_ct (hov q) n - (ch q i n).1 + 1 by omega, Nat.pow_succ, Nat.mul_comm 10, Nat.mul_assoc]
theorem ch_5 (q : Nat → Nat) (i : Nat) : (ch q i 10).1 ≤ 5 := by
  obtain ⟨h1, h2, h3, h4, h5⟩ := ch_ok (v := 0) 10 (by omega) (q := q) (i := i)
  cases hf : (ch q i 10).2
  · by_cases hcu : cur q i 10
    · have := h4 hcu hf; omega
    · have := h5 hcu; omega
  · have := h3 hf; omega
/-- how often work i is done, of 10 ^ hand-overs; of 100000 -/
def upi (q : Nat → Nat) (v i : Nat) : Nat := SS q v 10 (fun β => (!ND q i 10 β).toNat)
def shm (v c : Nat) : Nat := 100000 - 10 ^ (5 - c) * v ^ c
theorem upi_e {q : Nat → Nat} {v i : Nat} (hv : v ≤ 10) : upi q v i * 100000 = shm v (ch q i 10).1 * 10 ^ fb_ct (hov q) 10 := by
  have h1 : upi q v i + (ae q v i 10).1 = 10 ^ fb_ct (hov q) 10 := by
    rw [← SS_1 hv 10, ← (ae_ok hv 10).1, upi, ← SS_add]
    refine SS_cong (fun β => ?_)
    cases ND q i 10 β <;> rfl
  obtain ⟨h2, h3, -⟩ := ch_ok (v := v) 10 (by omega) (q := q) (i := i)
  have h5 := ch_5 q i
  rw [h3] at h1
  have hvc : v ^ (ch q i 10).1 ≤ 10 ^ (ch q i 10).1 := Nat.pow_le_pow_left hv _
  unfold shm
  generalize (ch q i 10).1 = c at h1 h2 h5 hvc
  generalize fb_ct (hov q) 10 = N at h1 h2
  obtain ⟨d, rfl⟩ : ∃ d, N = c + d := ⟨N - c, by omega⟩
  rw [show c + d - c = d by omega, Nat.pow_add] at h1
  rw [Nat.pow_add]
  have e5 : 100000 = 10 ^ (5 - c) * 10 ^ c := by rw [← Nat.pow_add, show 5 - c + c = 5 by omega]
  have hu : upi q v i = (10 ^ c - v ^ c) * 10 ^ d := by
    rw [Nat.sub_mul]; omega
  have hs : 100000 - 10 ^ (5 - c) * v ^ c = 10 ^ (5 - c) * (10 ^ c - v ^ c) := by
    rw [Nat.mul_sub, ← e5]
  rw [hu, hs]
  have e5' : (10 ^ c - v ^ c) * 10 ^ d * 100000 = (10 ^ c - v ^ c) * 10 ^ d * (10 ^ (5 - c) * 10 ^ c) := by rw [← e5]
  rw [e5']
  generalize 10 ^ c - v ^ c = X
  generalize 10 ^ d = Y
  generalize 10 ^ (5 - c) = Z
  generalize 10 ^ c = U
  rw [Nat.mul_comm Z X, Nat.mul_assoc, Nat.mul_assoc, ← Nat.mul_assoc Y Z U, Nat.mul_comm Y Z, Nat.mul_assoc Z Y U, Nat.mul_comm Y U]
/-- equal fractions are alike in lowest terms -/
theorem low_eq {A D B E : Nat} (hD : 0 < D) (hE : 0 < E) (h : A * E = B * D) : A / A.gcd D = B / B.gcd E ∧ D / A.gcd D = E / B.gcd E := by
  have g1 : 0 < A.gcd D := Nat.gcd_pos_of_pos_right A hD
  have g2 : 0 < B.gcd E := Nat.gcd_pos_of_pos_right B hE
  have c1 := Nat.coprime_div_gcd_div_gcd g1
  have c2 := Nat.coprime_div_gcd_div_gcd g2
  have eA : A / A.gcd D * A.gcd D = A := Nat.div_mul_cancel (Nat.gcd_dvd_left A D)
  have eD : D / A.gcd D * A.gcd D = D := Nat.div_mul_cancel (Nat.gcd_dvd_right A D)
  have eB : B / B.gcd E * B.gcd E = B := Nat.div_mul_cancel (Nat.gcd_dvd_left B E)
  have eE : E / B.gcd E * B.gcd E = E := Nat.div_mul_cancel (Nat.gcd_dvd_right B E)
  generalize A.gcd D = g at *
  generalize B.gcd E = f at *
  generalize A / g = a at *
  generalize D / g = d at *
  generalize B / f = b at *
  generalize E / f = e at *
  have h2 : a * e = b * d := by
    rw [← eA, ← eE, ← eB, ← eD] at h
    have h3 : (g * f) * (a * e) = (g * f) * (b * d) := by
      have l1 : (g * f) * (a * e) = a * g * (e * f) := by
        rw [Nat.mul_mul_mul_comm, Nat.mul_comm g a, Nat.mul_comm f e]
      have l2 : (g * f) * (b * d) = b * f * (d * g) := by
        rw [Nat.mul_comm g f, Nat.mul_mul_mul_comm, Nat.mul_comm f b, Nat.mul_comm g d]
      rw [l1, l2]; exact h
    exact Nat.eq_of_mul_eq_mul_left (Nat.mul_pos g1 g2) h3
  have d1 : a ∣ b := c1.dvd_of_dvd_mul_right (⟨e, h2.symm⟩)
  have d2 : b ∣ a := c2.dvd_of_dvd_mul_right (⟨d, h2⟩)
  have e1 : a = b := Nat.dvd_antisymm d1 d2
  refine ⟨e1, ?_⟩
  have d3 : d ∣ e := c1.symm.dvd_of_dvd_mul_left ⟨b, by rw [h2, Nat.mul_comm]⟩
  have d4 : e ∣ d := c2.symm.dvd_of_dvd_mul_left ⟨a, by rw [← h2, Nat.mul_comm]⟩
  exact Nat.dvd_antisymm d3 d4
