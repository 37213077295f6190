/-! the best rota: pure -/
theorem nat_dm (a b : Nat) : a - a / b * b = a % b := by
  have h := Nat.div_add_mod a b
  rw [Nat.mul_comm] at h
  omega
def wi (q : Nat → Nat) (k h : Nat) : Nat := msk (fun i => decide (q (36 + 4 * i) = k) && (decide (q (36 + 4 * i + 1) ≤ h) && decide (h ≤ q (36 + 4 * i + 2)))) (q 56)
/-- who had it ahead, 5 nobody; as near takes it -/
def ah (c : Nat) : Nat := if c = 5 then 0 else c + 1
def gn (q : Nat → Nat) (k h c : Nat) : Nat := if (decide (k < 5) && wsee q k h (ah c)) then wi q k h else 0
def mxs (f : Nat → Nat) : Nat → Nat
  | 0 => 0
  | n + 1 => max (mxs f n) (f n)
/-- the most worth, d hours to go, c had it ahead, s is done -/
def bsr (q : Nat → Nat) (K : Nat) : Nat → Nat → Nat → Nat
  | 0, _, s => wr q s
  | d + 1, c, s => max (mxs (fun k => bsr q K d k (s ||| gn q k (9 - d) c)) K) (bsr q K d 5 s)
theorem mxs_le {f : Nat → Nat} {k : Nat} : ∀ {n : Nat}, k < n → f k ≤ mxs f n
  | 0, h => absurd h (by omega)
  | n + 1, h => by
    rw [mxs]
    by_cases e : k = n
    · subst e; exact Nat.le_max_right _ _
    · exact Nat.le_trans (mxs_le (show k < n by omega)) (Nat.le_max_left _ _)
theorem mxs_at (f : Nat → Nat) : ∀ n, mxs f n = 0 ∨ ∃ k, k < n ∧ f k = mxs f n
  | 0 => Or.inl rfl
  | n + 1 => by
    rw [mxs]
    rcases Nat.le_total (mxs f n) (f n) with h | h
    · rw [Nat.max_eq_right h]
      exact Or.inr ⟨n, by omega, rfl⟩
    · rw [Nat.max_eq_left h]
      rcases mxs_at f n with h2 | ⟨k, hk, h2⟩
      · exact Or.inl h2
      · exact Or.inr ⟨k, by omega, h2⟩
theorem mxs_ub {f : Nat → Nat} {c : Nat} : ∀ {n : Nat}, (∀ k, k < n → f k ≤ c) → mxs f n ≤ c
  | 0, _ => Nat.zero_le _
  | n + 1, h => by
    rw [mxs]
    exact Nat.max_le.mpr ⟨mxs_ub (fun k hk => h k (by omega)), h n (by omega)⟩
theorem mxs_cong {f g : Nat → Nat} : ∀ {n : Nat}, (∀ k, k < n → f k = g k) → mxs f n = mxs g n
  | 0, _ => rfl
  | n + 1, h => by rw [mxs, mxs, mxs_cong (fun k hk => h k (by omega)), h n (by omega)]
theorem wr_45 {q : Nat → Nat} {K : Nat} (hG : Gd q K) (s : Nat) : wr q s ≤ 45 := by
  have h1 := hG.wn
  have h2 : wr q s ≤ q 56 * 9 := fb_sm_bound (fun i hi => by
    have := hG.w hi
    split <;> omega)
  omega
theorem bsr_45 {q : Nat → Nat} {K : Nat} (hG : Gd q K) : ∀ d c s, bsr q K d c s ≤ 45
  | 0, _, s => wr_45 hG s
  | d + 1, c, s => by
    rw [bsr]
    exact Nat.max_le.mpr ⟨mxs_ub (fun k _ => bsr_45 hG d _ _), bsr_45 hG d _ _⟩
theorem bsr_k {q : Nat → Nat} {K d c s k : Nat} (hk : k < K) : bsr q K d k (s ||| gn q k (9 - d) c) ≤ bsr q K (d + 1) c s := by
  rw [bsr]
  exact Nat.le_trans (mxs_le (f := fun k => bsr q K d k (s ||| gn q k (9 - d) c)) hk) (Nat.le_max_left _ _)
theorem bsr_5 {q : Nat → Nat} {K d c s : Nat} : bsr q K d 5 s ≤ bsr q K (d + 1) c s := by
  rw [bsr]
  exact Nat.le_max_right _ _
theorem bsr_at (q : Nat → Nat) (K d c s : Nat) : (∃ k, k < K ∧ bsr q K d k (s ||| gn q k (9 - d) c) = bsr q K (d + 1) c s) ∨ bsr q K d 5 s = bsr q K (d + 1) c s := by
  rw [bsr]
  rcases Nat.le_total (mxs (fun k => bsr q K d k (s ||| gn q k (9 - d) c)) K) (bsr q K d 5 s) with h | h
  · exact Or.inr (Nat.max_eq_right h).symm
  · rw [Nat.max_eq_left h]
    rcases mxs_at (fun k => bsr q K d k (s ||| gn q k (9 - d) c)) K with h2 | ⟨k, hk, h2⟩
    · exact Or.inr (by omega)
    · exact Or.inl ⟨k, hk, h2⟩
theorem gn_5 (q : Nat → Nat) (h c : Nat) : gn q 5 h c = 0 := by simp [gn]
theorem wi_lt {q : Nat → Nat} {K : Nat} (hG : Gd q K) (k h : Nat) : wi q k h < 32 :=
  Nat.lt_of_lt_of_le (msk_lt _ _) (Nat.pow_le_pow_right (n := 2) (by decide) hG.wn)
theorem gn_lt {q : Nat → Nat} {K : Nat} (hG : Gd q K) (k h c : Nat) : gn q k h c < 32 := by
  unfold gn
  split
  · exact wi_lt hG k h
  · decide
theorem or_32 {a b : Nat} (ha : a < 32) (hb : b < 32) : a ||| b < 32 := Nat.or_lt_two_pow (n := 5) ha hb
/-- the path of the best rota: who has it last, what is done, behind h hours -/
def nxt (q : Nat → Nat) (K h c s : Nat) : Nat := if fa_first (fun k => decide (bsr q K (9 - h) k (s ||| gn q k h c) = bsr q K 10 5 0)) K < K then fa_first (fun k => decide (bsr q K (9 - h) k (s ||| gn q k h c) = bsr q K 10 5 0)) K else 5
def pth (q : Nat → Nat) (K : Nat) : Nat → Nat × Nat
  | 0 => (5, 0)
  | h + 1 => (nxt q K h (pth q K h).1 (pth q K h).2, (pth q K h).2 ||| gn q (nxt q K h (pth q K h).1 (pth q K h).2) h (pth q K h).1)
def bst (q : Nat → Nat) (K : Nat) : Nat := bsr q K 10 5 0
def bpl (q : Nat → Nat) (K h : Nat) : Nat := if (pth q K (h + 1)).1 = 5 then 0 else (pth q K (h + 1)).1 + 1
theorem nxt_ok {q : Nat → Nat} {K h c s : Nat} (hh : h < 10) (hT : bsr q K (10 - h) c s = bsr q K 10 5 0) : (nxt q K h c s < K ∨ nxt q K h c s = 5) ∧ bsr q K (9 - h) (nxt q K h c s) (s ||| gn q (nxt q K h c s) h c) = bsr q K 10 5 0 ∧ ∀ k, k < K → k < nxt q K h c s → bsr q K (9 - h) k (s ||| gn q k h c) < bsr q K 10 5 0 := by
  have e9 : 9 - (9 - h) = h := by omega
  have e10 : 10 - h = 9 - h + 1 := by omega
  rw [e10] at hT
  have hle : ∀ k, k < K → bsr q K (9 - h) k (s ||| gn q k h c) ≤ bsr q K 10 5 0 := fun k hk => by
    have := bsr_k (q := q) (d := 9 - h) (c := c) (s := s) hk
    rw [e9, hT] at this; exact this
  have hno : ∀ k, k < K → k < fa_first (fun k => decide (bsr q K (9 - h) k (s ||| gn q k h c) = bsr q K 10 5 0)) K → bsr q K (9 - h) k (s ||| gn q k h c) < bsr q K 10 5 0 := fun k hk h2 => by
    have h3 := fa_first_no _ _ k h2
    have h4 := hle k hk
    simp at h3
    omega
  unfold nxt
  by_cases hf : fa_first (fun k => decide (bsr q K (9 - h) k (s ||| gn q k h c) = bsr q K 10 5 0)) K < K
  · rw [if_pos hf]
    refine ⟨Or.inl hf, ?_, hno⟩
    have := fa_first_yes _ _ hf
    simpa using this
  · rw [if_neg hf]
    refine ⟨Or.inr rfl, ?_, fun k hk _ => hno k hk (by omega)⟩
    have hat := bsr_at q K (9 - h) c s
    rw [e9, hT] at hat
    rw [gn_5, Nat.or_zero]
    rcases hat with ⟨k, hk, h2⟩ | h2
    · have := hno k hk (by omega)
      omega
    · exact h2
theorem pth_ok {q : Nat → Nat} {K : Nat} (hG : Gd q K) : ∀ h, h ≤ 10 → ((pth q K h).1 < K ∨ (pth q K h).1 = 5) ∧ (pth q K h).2 < 32 ∧ bsr q K (10 - h) (pth q K h).1 (pth q K h).2 = bsr q K 10 5 0
  | 0, _ => ⟨Or.inr rfl, show 0 < 32 by decide, rfl⟩
  | h + 1, hh => by
    have ih := pth_ok hG h (by omega)
    have hn := nxt_ok (show h < 10 by omega) ih.2.2
    rw [pth]
    refine ⟨hn.1, or_32 ih.2.1 (gn_lt hG _ _ _), ?_⟩
    rw [show 10 - (h + 1) = 9 - h by omega]
    exact hn.2.1
/-- two pages that are alike in what the best rota is made of -/
def Lv (q p : Nat → Nat) (K : Nat) : Prop := (∀ k, k < K → q k = p k) ∧ q 56 = p 56 ∧ ∀ i j, i < q 56 → j < 4 → q (36 + 4 * i + j) = p (36 + 4 * i + j)
theorem wr_lv {q p : Nat → Nat} {K : Nat} (h : Lv q p K) (s : Nat) : wr q s = wr p s := by
  unfold wr
  rw [h.2.1]
  apply fb_sm_cong
  intro i hi
  rw [h.2.2 i 3 (by rw [h.2.1]; exact hi) (by decide)]
theorem wi_lv {q p : Nat → Nat} {K : Nat} (h : Lv q p K) (k t : Nat) : wi q k t = wi p k t := by
  unfold wi
  rw [h.2.1]
  apply msk_cong
  intro i hi
  have hi' : i < q 56 := by rw [h.2.1]; exact hi
  have h0 := h.2.2 i 0 hi' (by decide)
  rw [Nat.add_zero] at h0
  rw [h0, h.2.2 i 1 hi' (by decide), h.2.2 i 2 hi' (by decide)]
theorem gn_lv {q p : Nat → Nat} {K : Nat} (h : Lv q p K) {k : Nat} (hk : k < K) (t c : Nat) : gn q k t c = gn p k t c := by
  unfold gn wsee
  rw [wi_lv h, h.1 k hk]
theorem bsr_lv {q p : Nat → Nat} {K : Nat} (h : Lv q p K) : ∀ d c s, bsr q K d c s = bsr p K d c s
  | 0, _, s => wr_lv h s
  | d + 1, c, s => by
    rw [bsr, bsr, bsr_lv h d 5 s]
    congr 1
    apply mxs_cong
    intro k hk
    rw [gn_lv h hk, bsr_lv h d k _]
theorem first_cong {p r : Nat → Bool} : ∀ {n : Nat}, (∀ k, k < n → p k = r k) → fa_first p n = fa_first r n
  | 0, _ => rfl
  | n + 1, h => by rw [fa_first, fa_first, first_cong (fun k hk => h k (by omega)), h n (by omega)]
theorem nxt_lv {q p : Nat → Nat} {K : Nat} (h : Lv q p K) (t c s : Nat) : nxt q K t c s = nxt p K t c s := by
  have e : fa_first (fun k => decide (bsr q K (9 - t) k (s ||| gn q k t c) = bsr q K 10 5 0)) K = fa_first (fun k => decide (bsr p K (9 - t) k (s ||| gn p k t c) = bsr p K 10 5 0)) K := first_cong (fun k hk => by rw [gn_lv h hk, bsr_lv h, bsr_lv h])
  unfold nxt
  rw [e]
theorem pth_lv {q p : Nat → Nat} {K : Nat} (h : Lv q p K) (hG : Gd q K) : ∀ t, t ≤ 10 → pth q K t = pth p K t
  | 0, _ => rfl
  | t + 1, ht => by
    have ih := pth_lv h hG t (by omega)
    have hok := pth_ok hG (t + 1) ht
    rw [pth] at hok
    rw [pth, pth, ← ih, ← nxt_lv h]
    congr 2
    rcases hok.1 with h1 | h1
    · exact gn_lv h h1 _ _
    · dsimp only at h1
      rw [h1, gn_5, gn_5]
theorem bst_lv {q p : Nat → Nat} {K : Nat} (h : Lv q p K) : bst q K = bst p K := bsr_lv h 10 5 0
theorem bpl_lv {q p : Nat → Nat} {K : Nat} (h : Lv q p K) (hG : Gd q K) {t : Nat} (ht : t < 10) : bpl q K t = bpl p K t := by
  unfold bpl
  rw [pth_lv h hG (t + 1) (by omega)]
