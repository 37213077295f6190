/-! numbers and binds in the form that the typed equations have -/
def mi (a : Nat) : Int32 := -nI a
def lm (a : Nat) : Int64 := -lN a
def ww {α β : Type} (_ : α → Option β) : Type := Unit
/-- Option.bind, whose second part isn't looked into before its first is known -/
def bnd {α β : Type} (o : Option α) (K : α → Option β) (_ : ww K) : Option β := o.bind K
theorem bnd_s {α β : Type} (v : α) (K : α → Option β) (w : ww K) : bnd (some v) K w = K v := rfl
theorem gd_t {α : Type} (x : Option α) : gd true x = x := rfl
theorem mi_I {a : Nat} (h : a < 2 ^ 31) : (mi a).toInt = -(a : Int) := by
  unfold mi
  rw [Int32.toInt_neg, nI_toInt h]
  exact Int.bmod_eq_of_le (by omega) (by omega)
theorem mi_eq {a b : Nat} (ha : a < 2 ^ 31) (hb : b < 2 ^ 31) : mi a = mi b ↔ a = b := by
  rw [← Int32.toInt_inj, mi_I ha, mi_I hb]; omega
theorem nm_eq {a b : Nat} (ha : a < 2 ^ 31) (h0 : 0 < b) (hb : b < 2 ^ 31) : (nI a = mi b) = False := by
  refine eq_false (fun h => ?_)
  rw [← Int32.toInt_inj, nI_toInt ha, mi_I hb] at h; omega
theorem mn_eq {a b : Nat} (ha : a < 2 ^ 31) (h0 : 0 < b) (hb : b < 2 ^ 31) : (mi b = nI a) = False := by
  refine eq_false (fun h => ?_)
  rw [← Int32.toInt_inj, nI_toInt ha, mi_I hb] at h; omega
theorem nm_le {a b : Nat} (ha : a < 2 ^ 31) (h0 : 0 < b) (hb : b < 2 ^ 31) : (nI a ≤ mi b) = False := by
  refine eq_false (fun h => ?_)
  rw [Int32.le_iff_toInt_le, nI_toInt ha, mi_I hb] at h; omega
theorem mn_le {a b : Nat} (ha : a < 2 ^ 31) (hb : b < 2 ^ 31) : (mi b ≤ nI a) = True := by
  refine eq_true ?_
  rw [Int32.le_iff_toInt_le, nI_toInt ha, mi_I hb]; omega
theorem nm_lt {a b : Nat} (ha : a < 2 ^ 31) (hb : b < 2 ^ 31) : (nI a < mi b) = False := by
  refine eq_false (fun h => ?_)
  rw [Int32.lt_iff_toInt_lt, nI_toInt ha, mi_I hb] at h; omega
theorem mn_lt {a b : Nat} (ha : a < 2 ^ 31) (h0 : 0 < b) (hb : b < 2 ^ 31) : (mi b < nI a) = True := by
  refine eq_true ?_
  rw [Int32.lt_iff_toInt_lt, nI_toInt ha, mi_I hb]; omega
theorem nI_m1 {a : Nat} (h : 0 < a) : nI a + mi 1 = nI (a - 1) := by
  obtain ⟨b, rfl⟩ : ∃ b, a = b + 1 := ⟨a - 1, by omega⟩
  exact pk_m1 b
theorem nI_s1 {a : Nat} (h : 0 < a) : nI a - nI 1 = nI (a - 1) := pk_sub h
theorem nI_s10 : nI 0 - nI 1 = mi 1 := by decide
theorem nI_m10 : nI 0 + mi 1 = mi 1 := by decide
theorem nI_a31 {a : Nat} (h : a < 32) : nI a &&& nI 31 = nI a := by
  rw [fa_and]; congr 1
  rw [show 31 = 2 ^ 5 - 1 from rfl, Nat.and_two_pow_sub_one_eq_mod]
  exact Nat.mod_eq_of_lt h
theorem nz_l : ∀ n, n < 32 → ((nI n &&& nI 31).toBitVec.smod 32).toNat = n := by decide +kernel
theorem nI_shl {a i : Nat} (h : i < 32) (h2 : a * 2 ^ i < 2 ^ 32) : nI a <<< (nI i &&& nI 31) = nI (a * 2 ^ i) := pk_shlN _ i (nz_l i h) h2
theorem nI_1shl {i : Nat} (h : i < 31) : nI 1 <<< (nI i &&& nI 31) = nI (2 ^ i) := by
  have h1 : 2 ^ i < 2 ^ 31 := Nat.pow_lt_pow_right (by decide) h
  rw [nI_shl (by omega) (by omega), Nat.one_mul]
theorem nI_shr {a i : Nat} (ha : a < 2 ^ 31) (h : i < 32) : nI a >>> (nI i &&& nI 31) = nI (a / 2 ^ i) := pk_shrN ha _ i (nz_l i h)
theorem nI_bit {a i : Nat} (ha : a < 2 ^ 31) (h : i < 32) : (nI a >>> (nI i &&& nI 31)) &&& nI 1 = nI (a.testBit i).toNat := by
  rw [nI_shr ha h, fa_and]; congr 1
  rw [Nat.and_one_is_mod, Nat.testBit_eq_decide_div_mod_eq]
  have := Nat.mod_two_eq_zero_or_one (a / 2 ^ i)
  rcases this with h | h <;> simp [h]
theorem nI_bt {a i : Nat} (ha : a < 2 ^ 31) (h : i < 31) : (nI a &&& (nI 1 <<< (nI i &&& nI 31)) = nI 0) = (a.testBit i = false) := by
  rw [nI_1shl h]; exact propext (fa_bit h)
theorem rem_nI {a d : Nat} (ha : a < 2 ^ 31) (h0 : 0 < d) (hd : d < 2 ^ 31) : nI a - nI a / nI d * nI d = nI (a % d) := pk_rem ha h0 hd
/-- a loop, its fuel, its counter, its state; R: what is wanted of its answer -/
theorem lp_r {σ ρ : Type} {T : Nat → Nat → σ → Option ρ} {N : Nat} {I : Nat → σ → Prop} {R : Option ρ → Prop} (hs : ∀ n k s, k < N → I k s → R (T (n + 1) k s) ∨ ∃ s', T (n + 1) k s = T n (k + 1) s' ∧ I (k + 1) s') (he : ∀ n s, I N s → R (T (n + 1) N s)) : ∀ (d fuel k : Nat) (s : σ), k + d = N → d < fuel → I k s → R (T fuel k s)
  | 0, fuel, k, s, hk, hf, hI => by
    obtain ⟨n, rfl⟩ : ∃ n, fuel = n + 1 := ⟨fuel - 1, by omega⟩
    cases (show k = N by omega)
    exact he n s hI
  | d + 1, fuel, k, s, hk, hf, hI => by
    obtain ⟨n, rfl⟩ : ∃ n, fuel = n + 1 := ⟨fuel - 1, by omega⟩
    rcases hs n k s (by omega) hI with h | ⟨s', h, hI'⟩
    · exact h
    · rw [h]
      exact lp_r hs he d n (k + 1) s' (by omega) (by omega) hI'
theorem lp_0 {σ ρ : Type} (T : Nat → Nat → σ → Option ρ) (N : Nat) (I : Nat → σ → Prop) (R : Option ρ → Prop) {s : σ} (h0 : I 0 s) (hN : N < fu) (hs : ∀ n k s, k < N → I k s → R (T (n + 1) k s) ∨ ∃ s', T (n + 1) k s = T n (k + 1) s' ∧ I (k + 1) s') (he : ∀ n s, I N s → R (T (n + 1) N s)) : R (T fu 0 s) := lp_r hs he N fu 0 s (by omega) hN h0
theorem lp_k {σ ρ : Type} (T : Nat → Nat → σ → Option ρ) (N : Nat) (I : Nat → σ → Prop) (R : Option ρ → Prop) {k : Nat} {s : σ} (hk : k ≤ N) (h0 : I k s) (hN : N < fu) (hs : ∀ n k s, k < N → I k s → R (T (n + 1) k s) ∨ ∃ s', T (n + 1) k s = T n (k + 1) s' ∧ I (k + 1) s') (he : ∀ n s, I N s → R (T (n + 1) N s)) : R (T fu k s) := lp_r hs he (N - k) fu k s (by omega) (by omega) h0
theorem fu_1 : fu = 4095 + 1 := rfl
theorem fu_l {n : Nat} (h : n < 4096) : n < fu := h
/-- masks and sums -/
def msk (c : Nat → Bool) : Nat → Nat
  | 0 => 0
  | n + 1 => msk c n ||| (if c n then 2 ^ n else 0)
theorem msk_bit (c : Nat → Bool) (i : Nat) : ∀ n, (msk c n).testBit i = (decide (i < n) && c i)
  | 0 => by simp [msk]
  | n + 1 => by
    rw [msk, Nat.testBit_or, msk_bit c i n]
    by_cases h : i = n
    · subst h
      cases hc : c i <;> simp [hc]
    · have h1 : decide (i < n + 1) = decide (i < n) := by apply decide_eq_decide.mpr; omega
      rw [h1]
      cases hc : c n
      · simp
      · simp [Nat.testBit_two_pow, Ne.symm h]
theorem msk_lt (c : Nat → Bool) : ∀ n, msk c n < 2 ^ n
  | 0 => by simp [msk]
  | n + 1 => by
    rw [msk]
    have h := msk_lt c n
    have h2 : 2 ^ n < 2 ^ (n + 1) := Nat.pow_lt_pow_right (by decide) (by omega)
    apply Nat.or_lt_two_pow
    · omega
    · split <;> omega
theorem msk_cong {c d : Nat → Bool} : ∀ {n : Nat}, (∀ i, i < n → c i = d i) → msk c n = msk d n
  | 0, _ => rfl
  | n + 1, h => by rw [msk, msk, msk_cong (fun i hi => h i (by omega)), h n (by omega)]
theorem msk_s (c : Nat → Bool) (n : Nat) : msk c (n + 1) = msk c n ||| (if c n then 2 ^ n else 0) := rfl
theorem msk_31 (c : Nat → Bool) {n : Nat} (h : n ≤ 30) : msk c n < 2 ^ 31 := Nat.lt_trans (msk_lt c n) (Nat.pow_lt_pow_right (by decide) (by omega))
theorem nI_or (a b : Nat) : nI a ||| nI b = nI (a ||| b) := fa_or a b
/-- a mask's next step as the machine does it -/
theorem msk_t {c : Nat → Bool} {n : Nat} (h : n < 31) (hc : c n = true) : nI (msk c n) ||| (nI 1 <<< (nI n &&& nI 31)) = nI (msk c (n + 1)) := by
  rw [nI_1shl h, fa_or, msk_s, hc]; rfl
theorem msk_f {c : Nat → Bool} {n : Nat} (hc : c n = false) : nI (msk c n) ||| nI 0 = nI (msk c (n + 1)) := by
  rw [fa_or, msk_s, hc]; rfl
def anyb (c : Nat → Bool) : Nat → Bool
  | 0 => false
  | n + 1 => anyb c n || c n
theorem anyb_i {c : Nat → Bool} : ∀ {n : Nat}, anyb c n = true ↔ ∃ i, i < n ∧ c i = true
  | 0 => by simp [anyb]
  | n + 1 => by
    rw [anyb, Bool.or_eq_true, anyb_i]
    constructor
    · rintro (⟨i, h, h2⟩ | h)
      · exact ⟨i, by omega, h2⟩
      · exact ⟨n, by omega, h⟩
    · rintro ⟨i, h, h2⟩
      by_cases hi : i = n
      · subst hi; exact Or.inr h2
      · exact Or.inl ⟨i, by omega, h2⟩
theorem anyb_cong {c d : Nat → Bool} : ∀ {n : Nat}, (∀ i, i < n → c i = d i) → anyb c n = anyb d n
  | 0, _ => rfl
  | n + 1, h => by rw [anyb, anyb, anyb_cong (fun i hi => h i (by omega)), h n (by omega)]
/-- an Int32 as one of the numbers below n, or not -/
theorem in_of (x : Int32) {n : Nat} (hn : n < 2 ^ 31) : (x < nI 0 ∨ (¬ x < nI 0 ∧ nI n ≤ x)) ∨ ∃ j : Nat, j < n ∧ x = nI j := by
  rcases pk_ix x hn with h | h | h
  · exact Or.inl (Or.inl h)
  · refine Or.inl (Or.inr ⟨fun h2 => ?_, h⟩)
    have h3 : x.toInt < 0 := by simpa [nI] using (fa_lt _ _).mp h2
    have h4 := (fa_le _ _).mp h
    rw [nI_toInt hn] at h4
    omega
  · exact Or.inr h
