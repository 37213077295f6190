/-! calls that change the page -/
theorem Im.g {g g' : Gg} {K : Nat} (h : Im g K) (hf : ∀ c ∈ [13, 49, 50, 51, 52, 53, 54, 55, 56, 57, 58, 60, 61, 62, 63, 64, 65, 66, 67, 68, 69, 90], g' c = g c) (h79 : ∀ j, 74 ≤ j → j < 222 → g' 79 j = g 79 j) : Im g' K := by
  have key : ∀ (st sm : Int32) (ko kc to tc wo wc eo ec fv ro : Nat → Int32) (o : Nat), 74 ≤ o → o + 74 ≤ 222 → Im1 st sm ko kc to tc wo wc eo ec fv ro (g 79) o K → Im1 st sm ko kc to tc wo wc eo ec fv ro (g' 79) o K := by
    intro st sm ko kc to tc wo wc eo ec fv ro o h1 h2 h
    rcases h with h | ⟨a, b, p, hp, hf, hr, hm⟩
    · exact Or.inl h
    · exact Or.inr ⟨a, b, p, hp, hf, hr, fun i hi => by rw [h79 (o + i) (by omega) (by omega)]; exact hm i hi⟩
  unfold Im
  rw [hf 13 (by decide), hf 49 (by decide), hf 50 (by decide), hf 51 (by decide), hf 52 (by decide), hf 53 (by decide), hf 54 (by decide), hf 55 (by decide), hf 56 (by decide), hf 57 (by decide), hf 58 (by decide), hf 60 (by decide), hf 61 (by decide), hf 62 (by decide), hf 63 (by decide), hf 64 (by decide), hf 65 (by decide), hf 66 (by decide), hf 67 (by decide), hf 68 (by decide), hf 69 (by decide), hf 90 (by decide)]
  exact ⟨key _ _ _ _ _ _ _ _ _ _ _ _ 74 (by omega) (by omega) h.1, key _ _ _ _ _ _ _ _ _ _ _ _ 148 (by omega) (by omega) h.2⟩
def pgc : List Nat := [2, 3, 4, 5, 6, 7, 8, 9, 10, 11, 79]
/-- another page in the place of q -/
theorem Iv.pg {l : List Nat} {g g' : Gg} {q p : Nat → Nat} {K : Nat} (h : Iv g q K) (hf : Fr l g g') (hl : ∀ c ∈ l, c ∈ scr ++ pgc) (hG : Gd p K) (hF : F1 g' p K) (hR : Ro (g' 11) p) (hM : Md (g' 79) 0 p) (h79 : ∀ j, 74 ≤ j → j < 222 → g' 79 j = g 79 j) : Iv g' p K := by
  have hs : Fr (scr ++ pgc) g g' := hf.mo (fun c hc hcl => hc (hl c hcl))
  obtain ⟨n, z, hsn⟩ := h.sn
  obtain ⟨m, b, htp⟩ := h.tp
  refine ⟨hG, hF, hR, ⟨?_, hM⟩, h.kp.f hs (by decide), h.im.g (fun c hc => hs c ?_) h79, ⟨n, z, hsn.f hs (by decide)⟩, ⟨m, b, htp.f hs (by decide)⟩, h.ft.f hs (by decide), h.sh.f hs (by decide), h.pn.f hs (by decide), h.cs.f hs (by decide)⟩
  · rw [hs 78 (by decide)]; exact h.M.1
  · revert c; decide
theorem Md_pt {s : Nat → Int32} {q : Nat → Nat} {a v : Nat} (h : Md s 0 q) (ha : a < 74) : Md (upd s a (nI v)) 0 (pt q a v) := by
  intro i hi
  rw [Nat.zero_add]
  by_cases e : i = a
  · rw [e, pk_us, pt_s]
  · rw [pk_un e, pt_n e]
    have := h i hi
    rw [Nat.zero_add] at this
    exact this
theorem Ro_pt {c : Nat → Int32} {q : Nat → Nat} {a v : Nat} (h : Ro c q) (ha : a < 26 ∨ 36 ≤ a) : Ro c (pt q a v) := by
  intro i hi
  rw [pt_n (by omega)]; exact h i hi
/-- the reference's put -/
theorem m_puts {g : Gg} {q : Nat → Nat} {K a : Nat} {x : Int32} (hM : Ms g q K) (ha : a < 74) : FX9_puts 78 (nI 1) (nI a) x (mk g) = some (nI (q a), mk (up g 79 a x)) := by
  simp -dsimp -implicitDefEqProofs (disch := omega) only [bnd_u, gd_t, if_true, if_false, ↓reduceIte, eq_self, true_or, or_true, false_or, or_false, not_true_eq_false, not_false_eq_true, and_true, true_and, and_false, false_and, reduceCtorEq, nI_ge, nI_le, nI_lt, nI_nlt, nI_ne, nI_te, nm_eq, mn_eq, nm_le, mn_le, nm_lt, mn_lt, pk_mul, nI_add, pk_sub, nI_clamp, eX9_puts, hMo, hM.a]
theorem m_puts0 {M : Hx} {a x : Int32} : FX9_puts 78 (nI 0) a x M = some (mi 1, M) := by
  simp -dsimp -implicitDefEqProofs (disch := omega) only [bnd_u, gd_t, if_true, if_false, ↓reduceIte, eq_self, true_or, or_true, false_or, or_false, not_true_eq_false, not_false_eq_true, and_true, true_and, and_false, false_and, reduceCtorEq, nI_ge, nI_le, nI_lt, nI_nlt, nI_ne, nI_te, nm_eq, mn_eq, nm_le, mn_le, nm_lt, mn_lt, pk_mul, nI_add, pk_sub, nI_clamp, eX9_puts]
/-- what a state-changing call leaves: the reference's cell a is v, the class's cells are as told -/
theorem sim_put {a b : Hx → Option (Int32 × Hx)} (h : ∀ g q K, Iv g q K → (∃ r, a (mk g) = some (r, mk g) ∧ ∀ g1, Iv g1 q K → b (mk g1) = some (r, mk g1)) ∨ ∃ r g1 g2 p l, a (mk g) = some (r, mk g1) ∧ b (mk g1) = some (r, mk g2) ∧ Fr l g g2 ∧ (∀ c ∈ l, c ∈ scr ++ pgc) ∧ Gd p K ∧ F1 g2 p K ∧ Ro (g2 11) p ∧ Md (g2 79) 0 p ∧ ∀ j, 74 ≤ j → j < 222 → g2 79 j = g 79 j) : Sim a b := by
  intro g q K hI
  rcases h g q K hI with ⟨r, e1, e2⟩ | ⟨r, g1, g2, p, l, e1, e2, hf, hl, hG, hF, hR, hM, h79⟩
  · exact ⟨r, g, g, q, K, e1, e2 g hI, hI⟩
  · exact ⟨r, g1, g2, p, K, e1, e2, hI.pg hf hl hG hF hR hM h79⟩
theorem Ms.up {g : Gg} {q : Nat → Nat} {K c i : Nat} {x : Int32} (h : Ms g q K) (hc : c < 78) : Ms (up g c i x) q K := h.f (Fr.c (l := [c]) (by simp)) (by intro d hd; simp at hd ⊢; omega)
theorem Gd_fv {q : Nat → Nat} {K v i : Nat} (hG : Gd q K) (hi : i < 3) (hv : v ≤ 9) : Gd (pt q (10 + i) v) K := by
  obtain ⟨h1, h2, h3, h4, h5, h6, h7, h8, h9, h10, h11⟩ := hG
  refine ⟨h1, fun j => ?_, fun k hk => ?_, ?_, fun t ht => ?_, fun h hh => ?_, ?_, fun j hj => ?_, ?_, fun t ht => ?_, fun j hj => ?_⟩
  · have := h2 j
    unfold pt; split <;> omega
  · have := h3 k hk
    unfold pt
    constructor
    · split <;> omega
    · split <;> omega
  · unfold pt; split <;> omega
  · have ht2 : t < q 25 := by unfold pt at ht; split at ht <;> omega
    have := h5 t ht2
    rw [pt_n (by omega), pt_n (by omega), pt_n (by omega)]; exact this
  · have := h6 h hh
    unfold pt; split <;> omega
  · unfold pt; split <;> omega
  · have hj2 : j < q 56 := by unfold pt at hj; split at hj <;> omega
    have := h8 j hj2
    rw [pt_n (by omega), pt_n (by omega), pt_n (by omega), pt_n (by omega)]; exact this
  · unfold pt; split <;> omega
  · have ht2 : t < q 73 := by unfold pt at ht; split at ht <;> omega
    have := h10 t ht2
    rw [pt_n (by omega), pt_n (by omega), pt_n (by omega), pt_n (by omega)]; exact this
  · have := h11 j hj
    unfold pt; split <;> omega
theorem Gd_kin {q : Nat → Nat} {K v j k : Nat} (hG : Gd q K) (hk : k < K) (hj : j < 2) (hv : v ≤ 3) (hv2 : j = 1 → v ≤ 2) : Gd (pt q (5 * j + k) v) K := by
  obtain ⟨h1, h2, h3, h4, h5, h6, h7, h8, h9, h10, h11⟩ := hG
  refine ⟨h1, fun j => ?_, fun k hk => ?_, ?_, fun t ht => ?_, fun h hh => ?_, ?_, fun j hj => ?_, ?_, fun t ht => ?_, fun j hj => ?_⟩
  · have := h2 j
    unfold pt; split <;> omega
  · have := h3 k hk
    unfold pt
    constructor
    · split <;> omega
    · split <;> omega
  · unfold pt; split <;> omega
  · have ht2 : t < q 25 := by unfold pt at ht; split at ht <;> omega
    have := h5 t ht2
    rw [pt_n (by omega), pt_n (by omega), pt_n (by omega)]; exact this
  · have := h6 h hh
    unfold pt; split <;> omega
  · unfold pt; split <;> omega
  · have hj2 : j < q 56 := by unfold pt at hj; split at hj <;> omega
    have := h8 j hj2
    rw [pt_n (by omega), pt_n (by omega), pt_n (by omega), pt_n (by omega)]; exact this
  · unfold pt; split <;> omega
  · have ht2 : t < q 73 := by unfold pt at ht; split at ht <;> omega
    have := h10 t ht2
    rw [pt_n (by omega), pt_n (by omega), pt_n (by omega), pt_n (by omega)]; exact this
  · have := h11 j hj
    unfold pt; split <;> omega
theorem Gd_ro {q : Nat → Nat} {K v h : Nat} (hG : Gd q K) (hh : h < 10) (hv : v ≤ K) : Gd (pt q (26 + h) v) K := by
  obtain ⟨h1, h2, h3, h4, h5, h6, h7, h8, h9, h10, h11⟩ := hG
  refine ⟨h1, fun j => ?_, fun k hk => ?_, ?_, fun t ht => ?_, fun h hh => ?_, ?_, fun j hj => ?_, ?_, fun t ht => ?_, fun j hj => ?_⟩
  · have := h2 j
    unfold pt; split <;> omega
  · have := h3 k hk
    unfold pt
    constructor
    · split <;> omega
    · split <;> omega
  · unfold pt; split <;> omega
  · have ht2 : t < q 25 := by unfold pt at ht; split at ht <;> omega
    have := h5 t ht2
    rw [pt_n (by omega), pt_n (by omega), pt_n (by omega)]; exact this
  · rename_i h0 hh0
    have := h6 h hh
    unfold pt; split <;> omega
  · unfold pt; split <;> omega
  · have hj2 : j < q 56 := by unfold pt at hj; split at hj <;> omega
    have := h8 j hj2
    rw [pt_n (by omega), pt_n (by omega), pt_n (by omega), pt_n (by omega)]; exact this
  · unfold pt; split <;> omega
  · have ht2 : t < q 73 := by unfold pt at ht; split at ht <;> omega
    have := h10 t ht2
    rw [pt_n (by omega), pt_n (by omega), pt_n (by omega), pt_n (by omega)]; exact this
  · have := h11 j hj
    unfold pt; split <;> omega
theorem Gd_c25 {q : Nat → Nat} {K v : Nat} (hG : Gd q K) (hv : v ≤ q 25) : Gd (pt q (25) v) K := by
  obtain ⟨h1, h2, h3, h4, h5, h6, h7, h8, h9, h10, h11⟩ := hG
  refine ⟨h1, fun j => ?_, fun k hk => ?_, ?_, fun t ht => ?_, fun h hh => ?_, ?_, fun j hj => ?_, ?_, fun t ht => ?_, fun j hj => ?_⟩
  · have := h2 j
    unfold pt; split <;> omega
  · have := h3 k hk
    unfold pt
    constructor
    · split <;> omega
    · split <;> omega
  · unfold pt; split <;> omega
  · have ht2 : t < q 25 := by unfold pt at ht; split at ht <;> omega
    have := h5 t ht2
    rw [pt_n (by omega), pt_n (by omega), pt_n (by omega)]; exact this
  · have := h6 h hh
    unfold pt; split <;> omega
  · unfold pt; split <;> omega
  · have hj2 : j < q 56 := by unfold pt at hj; split at hj <;> omega
    have := h8 j hj2
    rw [pt_n (by omega), pt_n (by omega), pt_n (by omega), pt_n (by omega)]; exact this
  · unfold pt; split <;> omega
  · have ht2 : t < q 73 := by unfold pt at ht; split at ht <;> omega
    have := h10 t ht2
    rw [pt_n (by omega), pt_n (by omega), pt_n (by omega), pt_n (by omega)]; exact this
  · have := h11 j hj
    unfold pt; split <;> omega
theorem Gd_c56 {q : Nat → Nat} {K v : Nat} (hG : Gd q K) (hv : v ≤ q 56) : Gd (pt q (56) v) K := by
  obtain ⟨h1, h2, h3, h4, h5, h6, h7, h8, h9, h10, h11⟩ := hG
  refine ⟨h1, fun j => ?_, fun k hk => ?_, ?_, fun t ht => ?_, fun h hh => ?_, ?_, fun j hj => ?_, ?_, fun t ht => ?_, fun j hj => ?_⟩
  · have := h2 j
    unfold pt; split <;> omega
  · have := h3 k hk
    unfold pt
    constructor
    · split <;> omega
    · split <;> omega
  · unfold pt; split <;> omega
  · have ht2 : t < q 25 := by unfold pt at ht; split at ht <;> omega
    have := h5 t ht2
    rw [pt_n (by omega), pt_n (by omega), pt_n (by omega)]; exact this
  · have := h6 h hh
    unfold pt; split <;> omega
  · unfold pt; split <;> omega
  · have hj2 : j < q 56 := by unfold pt at hj; split at hj <;> omega
    have := h8 j hj2
    rw [pt_n (by omega), pt_n (by omega), pt_n (by omega), pt_n (by omega)]; exact this
  · unfold pt; split <;> omega
  · have ht2 : t < q 73 := by unfold pt at ht; split at ht <;> omega
    have := h10 t ht2
    rw [pt_n (by omega), pt_n (by omega), pt_n (by omega), pt_n (by omega)]; exact this
  · have := h11 j hj
    unfold pt; split <;> omega
theorem Gd_c73 {q : Nat → Nat} {K v : Nat} (hG : Gd q K) (hv : v ≤ q 73) : Gd (pt q (73) v) K := by
  obtain ⟨h1, h2, h3, h4, h5, h6, h7, h8, h9, h10, h11⟩ := hG
  refine ⟨h1, fun j => ?_, fun k hk => ?_, ?_, fun t ht => ?_, fun h hh => ?_, ?_, fun j hj => ?_, ?_, fun t ht => ?_, fun j hj => ?_⟩
  · have := h2 j
    unfold pt; split <;> omega
  · have := h3 k hk
    unfold pt
    constructor
    · split <;> omega
    · split <;> omega
  · unfold pt; split <;> omega
  · have ht2 : t < q 25 := by unfold pt at ht; split at ht <;> omega
    have := h5 t ht2
    rw [pt_n (by omega), pt_n (by omega), pt_n (by omega)]; exact this
  · have := h6 h hh
    unfold pt; split <;> omega
  · unfold pt; split <;> omega
  · have hj2 : j < q 56 := by unfold pt at hj; split at hj <;> omega
    have := h8 j hj2
    rw [pt_n (by omega), pt_n (by omega), pt_n (by omega), pt_n (by omega)]; exact this
  · unfold pt; split <;> omega
  · have ht2 : t < q 73 := by unfold pt at ht; split at ht <;> omega
    have := h10 t ht2
    rw [pt_n (by omega), pt_n (by omega), pt_n (by omega), pt_n (by omega)]; exact this
  · have := h11 j hj
    unfold pt; split <;> omega
theorem F1_fv {g : Gg} {q : Nat → Nat} {K v i : Nat} (hF : F1 g q K) (hG : Gd q K) (hi : i < 3) : F1 (up g 10 i (nI v)) (pt q (10 + i) v) K := by
  have hK := hG.K
  have htn := hG.tn
  have hwn := hG.wn
  have hen := hG.en
  obtain ⟨h1, h2, h3, h4, h5, h6, h7, h8, h9, h10⟩ := hF
  unfold F1
  simp only [up_c, up_n (show 2 ≠ 10 by decide), up_n (show 3 ≠ 10 by decide), up_n (show 4 ≠ 10 by decide), up_n (show 5 ≠ 10 by decide), up_n (show 6 ≠ 10 by decide), up_n (show 7 ≠ 10 by decide), up_n (show 8 ≠ 10 by decide), up_n (show 9 ≠ 10 by decide)]
  refine ⟨h1, fun k hk => ?_, fun k hk => ?_, ?_, fun t j ht hj => ?_, ?_, fun t j ht hj => ?_, ?_, fun t j ht hj => ?_, fun j hj => ?_⟩
  · rw [pt_n (by omega)]; exact h2 k hk
  · rw [pt_n (by omega)]; exact h3 k hk
  · rw [pt_n (by omega)]; exact h4
  · have ht2 : t < q 25 := by unfold pt at ht; split at ht <;> omega
    rw [pt_n (by omega)]; exact h5 t j ht2 hj
  · rw [pt_n (by omega)]; exact h6
  · have ht2 : t < q 56 := by unfold pt at ht; split at ht <;> omega
    rw [pt_n (by omega)]; exact h7 t j ht2 hj
  · rw [pt_n (by omega)]; exact h8
  · have ht2 : t < q 73 := by unfold pt at ht; split at ht <;> omega
    rw [pt_n (by omega)]; exact h9 t j ht2 hj
  · by_cases e : j = i
    · rw [e, pk_us, pt_s]
    · rw [pk_un e, pt_n (by omega)]; exact h10 j hj
theorem F1_kin {g : Gg} {q : Nat → Nat} {K v j k : Nat} (hF : F1 g q K) (hG : Gd q K) (hk : k < K) (hj : j < 2) : F1 (up g 3 (k * 2 + j) (nI v)) (pt q (5 * j + k) v) K := by
  have hK := hG.K
  have htn := hG.tn
  have hwn := hG.wn
  have hen := hG.en
  obtain ⟨h1, h2, h3, h4, h5, h6, h7, h8, h9, h10⟩ := hF
  unfold F1
  simp only [up_c, up_n (show 2 ≠ 3 by decide), up_n (show 4 ≠ 3 by decide), up_n (show 5 ≠ 3 by decide), up_n (show 6 ≠ 3 by decide), up_n (show 7 ≠ 3 by decide), up_n (show 8 ≠ 3 by decide), up_n (show 9 ≠ 3 by decide), up_n (show 10 ≠ 3 by decide)]
  refine ⟨h1, fun k hk => ?_, fun k hk => ?_, ?_, fun t j ht hj => ?_, ?_, fun t j ht hj => ?_, ?_, fun t j ht hj => ?_, fun j hj => ?_⟩
  · rename_i k0 hk0
    by_cases e : k * 2 + 0 = k0 * 2 + j
    · rw [e, pk_us, show k = 5 * j + k0 by omega, pt_s]
    · rw [pk_un e, pt_n (by omega)]; exact h2 k hk
  · rename_i k0 hk0
    by_cases e : k * 2 + 1 = k0 * 2 + j
    · rw [e, pk_us, show 5 + k = 5 * j + k0 by omega, pt_s]
    · rw [pk_un e, pt_n (by omega)]; exact h3 k hk
  · rw [pt_n (by omega)]; exact h4
  · have ht2 : t < q 25 := by unfold pt at ht; split at ht <;> omega
    rw [pt_n (by omega)]; exact h5 t j ht2 hj
  · rw [pt_n (by omega)]; exact h6
  · have ht2 : t < q 56 := by unfold pt at ht; split at ht <;> omega
    rw [pt_n (by omega)]; exact h7 t j ht2 hj
  · rw [pt_n (by omega)]; exact h8
  · have ht2 : t < q 73 := by unfold pt at ht; split at ht <;> omega
    rw [pt_n (by omega)]; exact h9 t j ht2 hj
  · rw [pt_n (by omega)]; exact h10 j hj
theorem F1_ro {g : Gg} {q : Nat → Nat} {K v h : Nat} (hF : F1 g q K) (hG : Gd q K) (hh : h < 10) : F1 (g) (pt q (26 + h) v) K := by
  have hK := hG.K
  have htn := hG.tn
  have hwn := hG.wn
  have hen := hG.en
  obtain ⟨h1, h2, h3, h4, h5, h6, h7, h8, h9, h10⟩ := hF
  unfold F1
  refine ⟨h1, fun k hk => ?_, fun k hk => ?_, ?_, fun t j ht hj => ?_, ?_, fun t j ht hj => ?_, ?_, fun t j ht hj => ?_, fun j hj => ?_⟩
  · rw [pt_n (by omega)]; exact h2 k hk
  · rw [pt_n (by omega)]; exact h3 k hk
  · rw [pt_n (by omega)]; exact h4
  · have ht2 : t < q 25 := by unfold pt at ht; split at ht <;> omega
    rw [pt_n (by omega)]; exact h5 t j ht2 hj
  · rw [pt_n (by omega)]; exact h6
  · have ht2 : t < q 56 := by unfold pt at ht; split at ht <;> omega
    rw [pt_n (by omega)]; exact h7 t j ht2 hj
  · rw [pt_n (by omega)]; exact h8
  · have ht2 : t < q 73 := by unfold pt at ht; split at ht <;> omega
    rw [pt_n (by omega)]; exact h9 t j ht2 hj
  · rw [pt_n (by omega)]; exact h10 j hj
theorem F1_c25 {g : Gg} {q : Nat → Nat} {K v : Nat} (hF : F1 g q K) (hG : Gd q K) (hv : v ≤ q 25) : F1 (up g 4 3 (nI v)) (pt q 25 v) K := by
  have hK := hG.K
  have htn := hG.tn
  have hwn := hG.wn
  have hen := hG.en
  obtain ⟨h1, h2, h3, h4, h5, h6, h7, h8, h9, h10⟩ := hF
  unfold F1
  simp only [up_c, up_n (show 2 ≠ 4 by decide), up_n (show 3 ≠ 4 by decide), up_n (show 5 ≠ 4 by decide), up_n (show 6 ≠ 4 by decide), up_n (show 7 ≠ 4 by decide), up_n (show 8 ≠ 4 by decide), up_n (show 9 ≠ 4 by decide), up_n (show 10 ≠ 4 by decide)]
  refine ⟨h1, fun k hk => ?_, fun k hk => ?_, ?_, fun t j ht hj => ?_, ?_, fun t j ht hj => ?_, ?_, fun t j ht hj => ?_, fun j hj => ?_⟩
  · rw [pt_n (by omega)]; exact h2 k hk
  · rw [pt_n (by omega)]; exact h3 k hk
  · rw [pk_us, pt_s]
  · have ht2 : t < q 25 := by unfold pt at ht; split at ht <;> omega
    rw [pt_n (by omega)]; exact h5 t j ht2 hj
  · rw [pt_n (by omega)]; exact h6
  · have ht2 : t < q 56 := by unfold pt at ht; split at ht <;> omega
    rw [pt_n (by omega)]; exact h7 t j ht2 hj
  · rw [pt_n (by omega)]; exact h8
  · have ht2 : t < q 73 := by unfold pt at ht; split at ht <;> omega
    rw [pt_n (by omega)]; exact h9 t j ht2 hj
  · rw [pt_n (by omega)]; exact h10 j hj
theorem F1_c56 {g : Gg} {q : Nat → Nat} {K v : Nat} (hF : F1 g q K) (hG : Gd q K) (hv : v ≤ q 56) : F1 (up g 6 3 (nI v)) (pt q 56 v) K := by
  have hK := hG.K
  have htn := hG.tn
  have hwn := hG.wn
  have hen := hG.en
  obtain ⟨h1, h2, h3, h4, h5, h6, h7, h8, h9, h10⟩ := hF
  unfold F1
  simp only [up_c, up_n (show 2 ≠ 6 by decide), up_n (show 3 ≠ 6 by decide), up_n (show 4 ≠ 6 by decide), up_n (show 5 ≠ 6 by decide), up_n (show 7 ≠ 6 by decide), up_n (show 8 ≠ 6 by decide), up_n (show 9 ≠ 6 by decide), up_n (show 10 ≠ 6 by decide)]
  refine ⟨h1, fun k hk => ?_, fun k hk => ?_, ?_, fun t j ht hj => ?_, ?_, fun t j ht hj => ?_, ?_, fun t j ht hj => ?_, fun j hj => ?_⟩
  · rw [pt_n (by omega)]; exact h2 k hk
  · rw [pt_n (by omega)]; exact h3 k hk
  · rw [pt_n (by omega)]; exact h4
  · have ht2 : t < q 25 := by unfold pt at ht; split at ht <;> omega
    rw [pt_n (by omega)]; exact h5 t j ht2 hj
  · rw [pk_us, pt_s]
  · have ht2 : t < q 56 := by unfold pt at ht; split at ht <;> omega
    rw [pt_n (by omega)]; exact h7 t j ht2 hj
  · rw [pt_n (by omega)]; exact h8
  · have ht2 : t < q 73 := by unfold pt at ht; split at ht <;> omega
    rw [pt_n (by omega)]; exact h9 t j ht2 hj
  · rw [pt_n (by omega)]; exact h10 j hj
theorem F1_c73 {g : Gg} {q : Nat → Nat} {K v : Nat} (hF : F1 g q K) (hG : Gd q K) (hv : v ≤ q 73) : F1 (up g 8 3 (nI v)) (pt q 73 v) K := by
  have hK := hG.K
  have htn := hG.tn
  have hwn := hG.wn
  have hen := hG.en
  obtain ⟨h1, h2, h3, h4, h5, h6, h7, h8, h9, h10⟩ := hF
  unfold F1
  simp only [up_c, up_n (show 2 ≠ 8 by decide), up_n (show 3 ≠ 8 by decide), up_n (show 4 ≠ 8 by decide), up_n (show 5 ≠ 8 by decide), up_n (show 6 ≠ 8 by decide), up_n (show 7 ≠ 8 by decide), up_n (show 9 ≠ 8 by decide), up_n (show 10 ≠ 8 by decide)]
  refine ⟨h1, fun k hk => ?_, fun k hk => ?_, ?_, fun t j ht hj => ?_, ?_, fun t j ht hj => ?_, ?_, fun t j ht hj => ?_, fun j hj => ?_⟩
  · rw [pt_n (by omega)]; exact h2 k hk
  · rw [pt_n (by omega)]; exact h3 k hk
  · rw [pt_n (by omega)]; exact h4
  · have ht2 : t < q 25 := by unfold pt at ht; split at ht <;> omega
    rw [pt_n (by omega)]; exact h5 t j ht2 hj
  · rw [pt_n (by omega)]; exact h6
  · have ht2 : t < q 56 := by unfold pt at ht; split at ht <;> omega
    rw [pt_n (by omega)]; exact h7 t j ht2 hj
  · rw [pk_us, pt_s]
  · have ht2 : t < q 73 := by unfold pt at ht; split at ht <;> omega
    rw [pt_n (by omega)]; exact h9 t j ht2 hj
  · rw [pt_n (by omega)]; exact h10 j hj
theorem h79_up {g g1 : Gg} {a : Nat} {x : Int32} (h : g1 79 = g 79) (ha : a < 74) : ∀ j, 74 ≤ j → j < 222 → up g1 79 a x 79 j = g 79 j := by
  intro j hj _
  rw [up_c, pk_un (by omega), h]
/-- the class's cells c have been changed, then the reference's cell a -/
theorem put_1 {g g1 : Gg} {q p : Nat → Nat} {K a v : Nat} {l : List Nat} (hI : Iv g q K) (hf : Fr l g g1) (hl : ∀ c ∈ l, c ∈ scr ++ pgc) (hl2 : 79 ∉ l) (ha : a < 74) (hp : p = pt q a v) (hG : Gd p K) (hF : F1 g1 p K) (hR : Ro (g1 11) p) : Iv (up g1 79 a (nI v)) p K := by
  have f2 : Fr (79 :: l) g (up g1 79 a (nI v)) := hf.tr (Fr.c (l := 79 :: l) (by simp)) (fun c hc => ⟨fun h => hc (by simp [h]), hc⟩)
  refine hI.pg f2 ?_ hG (hF.f (Fr.c (l := [79]) (by simp)) (by decide)) ?_ ?_ (h79_up (hf 79 hl2) ha)
  · intro c hc
    rcases List.mem_cons.mp hc with h | h
    · subst h; decide
    · exact hl c h
  · rw [up_n (by decide)]; exact hR
  · rw [up_c, hf 79 hl2, hp]; exact Md_pt hI.M.2 ha
theorem sim_paint (x y : Int32) : Sim (FX8_paint 0 x y) (FX9_paint 78 x y) := by
  intro g q K hI
  rcases in_of x (n := 3) (by omega) with hx | ⟨i, hi, rfl⟩
  · refine ⟨mi 1, g, g, q, K, ?_, ?_, hI⟩
    · simp -dsimp -implicitDefEqProofs (disch := omega) only [bnd_u, gd_t, if_true, if_false, ↓reduceIte, eq_self, true_or, or_true, false_or, or_false, not_true_eq_false, not_false_eq_true, and_true, true_and, and_false, false_and, reduceCtorEq, nI_ge, nI_le, nI_lt, nI_nlt, nI_ne, nI_te, nm_eq, mn_eq, nm_le, mn_le, nm_lt, mn_lt, pk_mul, nI_add, pk_sub, nI_clamp, eX8_paint, eX8_paint_14, c_thingN hx]
    · simp -dsimp -implicitDefEqProofs (disch := omega) only [bnd_u, gd_t, if_true, if_false, ↓reduceIte, eq_self, true_or, or_true, false_or, or_false, not_true_eq_false, not_false_eq_true, and_true, true_and, and_false, false_and, reduceCtorEq, nI_ge, nI_le, nI_lt, nI_nlt, nI_ne, nI_te, nm_eq, mn_eq, nm_le, mn_le, nm_lt, mn_lt, pk_mul, nI_add, pk_sub, nI_clamp, eX9_paint, eX9_paint_24, eX9_paint_25, m_thingN hx, hMo, m_puts0]
  · rcases in_of y (n := 10) (by omega) with hy | ⟨v, hv, rfl⟩
    · refine ⟨mi 1, g, g, q, K, ?_, ?_, hI⟩
      · simp -dsimp -implicitDefEqProofs (disch := omega) only [bnd_u, gd_t, if_true, if_false, ↓reduceIte, eq_self, true_or, or_true, false_or, or_false, not_true_eq_false, not_false_eq_true, and_true, true_and, and_false, false_and, reduceCtorEq, nI_ge, nI_le, nI_lt, nI_nlt, nI_ne, nI_te, nm_eq, mn_eq, nm_le, mn_le, nm_lt, mn_lt, pk_mul, nI_add, pk_sub, nI_clamp, eX8_paint, eX8_paint_14, c_thing hi, c_valueN hy]
      · have hin := m_0nN (M := mk g) (n := 10) (by omega) (by omega) hy
        simp -dsimp -implicitDefEqProofs (disch := omega) only [bnd_u, gd_t, if_true, if_false, ↓reduceIte, eq_self, true_or, or_true, false_or, or_false, not_true_eq_false, not_false_eq_true, and_true, true_and, and_false, false_and, reduceCtorEq, nI_ge, nI_le, nI_lt, nI_nlt, nI_ne, nI_te, nm_eq, mn_eq, nm_le, mn_le, nm_lt, mn_lt, pk_mul, nI_add, pk_sub, nI_clamp, eX9_paint, eX9_paint_24, eX9_paint_25, m_thing hi, hin, hMo, m_puts0]
    · have f1 : Fr [10] g (up g 10 i (nI v)) := Fr.c (by decide)
      have hM1 := hI.M.f f1 (by decide)
      refine ⟨nI (q (10 + i)), up g 10 i (nI v), up (up g 10 i (nI v)) 79 (10 + i) (nI v), pt q (10 + i) v, K, ?_, ?_, put_1 hI f1 (by decide) (by decide) (by omega) rfl (Gd_fv hI.G hi (by omega)) (F1_fv hI.F hI.G hi) ?_⟩
      · simp -dsimp -implicitDefEqProofs (disch := omega) only [bnd_u, gd_t, if_true, if_false, ↓reduceIte, eq_self, true_or, or_true, false_or, or_false, not_true_eq_false, not_false_eq_true, and_true, true_and, and_false, false_and, reduceCtorEq, nI_ge, nI_le, nI_lt, nI_nlt, nI_ne, nI_te, nm_eq, mn_eq, nm_le, mn_le, nm_lt, mn_lt, pk_mul, nI_add, pk_sub, nI_clamp, eX8_paint, c_thing hi, c_value hv, hTop, hFam, hI.F.2.2.2.2.2.2.2.2.2 i hi]
      · have hin := m_0n (M := mk (up g 10 i (nI v))) hv (by omega)
        simp -dsimp -implicitDefEqProofs (disch := omega) only [bnd_u, gd_t, if_true, if_false, ↓reduceIte, eq_self, true_or, or_true, false_or, or_false, not_true_eq_false, not_false_eq_true, and_true, true_and, and_false, false_and, reduceCtorEq, nI_ge, nI_le, nI_lt, nI_nlt, nI_ne, nI_te, nm_eq, mn_eq, nm_le, mn_le, nm_lt, mn_lt, pk_mul, nI_add, pk_sub, nI_clamp, eX9_paint, eX9_paint_25, m_thing hi, hin, hMo, m_puts hM1 (show 10 + i < 74 by omega)]
      · rw [up_n (by decide)]; exact Ro_pt hI.R (by omega)
theorem sim_alter (x y z : Int32) : Sim (FX8_alter 0 x y z) (FX9_alter 78 x y z) := by
  intro g q K hI
  have hK := hI.G.K
  rcases in_of x (n := K) (by omega) with hx | ⟨k, hk, rfl⟩
  · refine ⟨mi 1, g, g, q, K, ?_, ?_, hI⟩
    · simp -dsimp -implicitDefEqProofs (disch := omega) only [bnd_u, gd_t, if_true, if_false, ↓reduceIte, eq_self, true_or, or_true, false_or, or_false, not_true_eq_false, not_false_eq_true, and_true, true_and, and_false, false_and, reduceCtorEq, nI_ge, nI_le, nI_lt, nI_nlt, nI_ne, nI_te, nm_eq, mn_eq, nm_le, mn_le, nm_lt, mn_lt, pk_mul, nI_add, pk_sub, nI_clamp, eX8_alter, eX8_alter_35, hTop, hFam, f_oneN hI.F hx]
    · simp -dsimp -implicitDefEqProofs (disch := omega) only [bnd_u, gd_t, if_true, if_false, ↓reduceIte, eq_self, true_or, or_true, false_or, or_false, not_true_eq_false, not_false_eq_true, and_true, true_and, and_false, false_and, reduceCtorEq, nI_ge, nI_le, nI_lt, nI_nlt, nI_ne, nI_te, nm_eq, mn_eq, nm_le, mn_le, nm_lt, mn_lt, pk_mul, nI_add, pk_sub, nI_clamp, eX9_alter, eX9_alter_41, eX9_alter_42, hMo, m_oneN hI.M hK hx, m_puts0]
  · rcases in_of y (n := 2) (by omega) with hy | ⟨j, hj, rfl⟩
    · refine ⟨mi 1, g, g, q, K, ?_, ?_, hI⟩
      · simp -dsimp -implicitDefEqProofs (disch := omega) only [bnd_u, gd_t, if_true, if_false, ↓reduceIte, eq_self, true_or, or_true, false_or, or_false, not_true_eq_false, not_false_eq_true, and_true, true_and, and_false, false_and, reduceCtorEq, nI_ge, nI_le, nI_lt, nI_nlt, nI_ne, nI_te, nm_eq, mn_eq, nm_le, mn_le, nm_lt, mn_lt, pk_mul, nI_add, pk_sub, nI_clamp, eX8_alter, eX8_alter_35, hTop, hFam, f_one hI.F hI.G hk, c_flagN hy]
      · simp -dsimp -implicitDefEqProofs (disch := omega) only [bnd_u, gd_t, if_true, if_false, ↓reduceIte, eq_self, true_or, or_true, false_or, or_false, not_true_eq_false, not_false_eq_true, and_true, true_and, and_false, false_and, reduceCtorEq, nI_ge, nI_le, nI_lt, nI_nlt, nI_ne, nI_te, nm_eq, mn_eq, nm_le, mn_le, nm_lt, mn_lt, pk_mul, nI_add, pk_sub, nI_clamp, eX9_alter, eX9_alter_25, eX9_alter_41, eX9_alter_42, hMo, m_one hI.M hK hk, ne_out hy (show 0 < 2 by omega) (by omega), ne_out hy (show 1 < 2 by omega) (by omega), m_puts0]
    · rcases in_of z (n := 4 - j) (by omega) with hz | ⟨v, hv, rfl⟩
      · refine ⟨mi 1, g, g, q, K, ?_, ?_, hI⟩
        · rcases (show j = 0 ∨ j = 1 by omega) with rfl | rfl
          · rcases hz with h | ⟨h, h2⟩
            · simp -dsimp -implicitDefEqProofs (disch := omega) only [bnd_u, gd_t, if_true, if_false, ↓reduceIte, eq_self, true_or, or_true, false_or, or_false, not_true_eq_false, not_false_eq_true, and_true, true_and, and_false, false_and, reduceCtorEq, nI_ge, nI_le, nI_lt, nI_nlt, nI_ne, nI_te, nm_eq, mn_eq, nm_le, mn_le, nm_lt, mn_lt, pk_mul, nI_add, pk_sub, nI_clamp, eX8_alter, eX8_alter_35, hTop, hFam, f_one hI.F hI.G hk, c_flag hj, h]
            · have h3 : ¬ z ≤ nI 3 := (fa_of_lt (lt_of_le10 h2 (show 3 < 4 - 0 by omega) (by omega))).2.1
              simp -dsimp -implicitDefEqProofs (disch := omega) only [bnd_u, gd_t, if_true, if_false, ↓reduceIte, eq_self, true_or, or_true, false_or, or_false, not_true_eq_false, not_false_eq_true, and_true, true_and, and_false, false_and, reduceCtorEq, nI_ge, nI_le, nI_lt, nI_nlt, nI_ne, nI_te, nm_eq, mn_eq, nm_le, mn_le, nm_lt, mn_lt, pk_mul, nI_add, pk_sub, nI_clamp, eX8_alter, eX8_alter_32, eX8_alter_35, hTop, hFam, f_one hI.F hI.G hk, c_flag hj, h, h3]
          · rcases hz with h | ⟨h, h2⟩
            · simp -dsimp -implicitDefEqProofs (disch := omega) only [bnd_u, gd_t, if_true, if_false, ↓reduceIte, eq_self, true_or, or_true, false_or, or_false, not_true_eq_false, not_false_eq_true, and_true, true_and, and_false, false_and, reduceCtorEq, nI_ge, nI_le, nI_lt, nI_nlt, nI_ne, nI_te, nm_eq, mn_eq, nm_le, mn_le, nm_lt, mn_lt, pk_mul, nI_add, pk_sub, nI_clamp, eX8_alter, eX8_alter_35, hTop, hFam, f_one hI.F hI.G hk, c_flag hj, h]
            · have h3 : ¬ z ≤ nI 2 := (fa_of_lt (lt_of_le10 h2 (show 2 < 4 - 1 by omega) (by omega))).2.1
              simp -dsimp -implicitDefEqProofs (disch := omega) only [bnd_u, gd_t, if_true, if_false, ↓reduceIte, eq_self, true_or, or_true, false_or, or_false, not_true_eq_false, not_false_eq_true, and_true, true_and, and_false, false_and, reduceCtorEq, nI_ge, nI_le, nI_lt, nI_nlt, nI_ne, nI_te, nm_eq, mn_eq, nm_le, mn_le, nm_lt, mn_lt, pk_mul, nI_add, pk_sub, nI_clamp, eX8_alter, eX8_alter_32, eX8_alter_35, hTop, hFam, f_one hI.F hI.G hk, c_flag hj, h, h3]
        · rcases (show j = 0 ∨ j = 1 by omega) with rfl | rfl
          · have hin := m_0nN (M := mk g) (n := 4) (by omega) (by omega) hz
            simp -dsimp -implicitDefEqProofs (disch := omega) only [bnd_u, gd_t, if_true, if_false, ↓reduceIte, eq_self, true_or, or_true, false_or, or_false, not_true_eq_false, not_false_eq_true, and_true, true_and, and_false, false_and, reduceCtorEq, nI_ge, nI_le, nI_lt, nI_nlt, nI_ne, nI_te, nm_eq, mn_eq, nm_le, mn_le, nm_lt, mn_lt, pk_mul, nI_add, pk_sub, nI_clamp, eX9_alter, eX9_alter_25, eX9_alter_41, eX9_alter_42, hMo, m_one hI.M hK hk, hin, m_puts0]
          · simp -dsimp -implicitDefEqProofs (disch := omega) only [bnd_u, gd_t, if_true, if_false, ↓reduceIte, eq_self, true_or, or_true, false_or, or_false, not_true_eq_false, not_false_eq_true, and_true, true_and, and_false, false_and, reduceCtorEq, nI_ge, nI_le, nI_lt, nI_nlt, nI_ne, nI_te, nm_eq, mn_eq, nm_le, mn_le, nm_lt, mn_lt, pk_mul, nI_add, pk_sub, nI_clamp, eX9_alter, eX9_alter_25, eX9_alter_41, eX9_alter_42, hMo, m_one hI.M hK hk, m_thingN hz, m_puts0]
      · have f1 : Fr [3] g (up g 3 (k * 2 + j) (nI v)) := Fr.c (by decide)
        have hM1 := hI.M.f f1 (by decide)
        have hat := R_at rw2 hI.F.1 hK hk hj
        have e0 : g 3 (k * 2 + j) = nI (q (5 * j + k)) := by
          rcases (show j = 0 ∨ j = 1 by omega) with rfl | rfl
          · rw [hI.F.2.1 k hk, Nat.mul_zero, Nat.zero_add]
          · rw [hI.F.2.2.1 k hk, Nat.mul_one]
        rw [e0] at hat
        have hput := R_put (x := nI v) rw2 hI.F.1 hK hk hj
        refine ⟨nI (q (5 * j + k)), up g 3 (k * 2 + j) (nI v), up (up g 3 (k * 2 + j) (nI v)) 79 (5 * j + k) (nI v), pt q (5 * j + k) v, K, ?_, ?_, put_1 hI f1 (by decide) (by decide) (by omega) rfl (Gd_kin hI.G hk hj (by omega) (by omega)) (F1_kin hI.F hI.G hk hj) ?_⟩
        · rcases (show j = 0 ∨ j = 1 by omega) with rfl | rfl
          · simp -dsimp -implicitDefEqProofs (disch := omega) only [bnd_u, gd_t, if_true, if_false, ↓reduceIte, eq_self, true_or, or_true, false_or, or_false, not_true_eq_false, not_false_eq_true, and_true, true_and, and_false, false_and, reduceCtorEq, nI_ge, nI_le, nI_lt, nI_nlt, nI_ne, nI_te, nm_eq, mn_eq, nm_le, mn_le, nm_lt, mn_lt, pk_mul, nI_add, pk_sub, nI_clamp, eX8_alter, eX8_alter_32, hTop, hFam, f_one hI.F hI.G hk, c_flag hj, hat, hput]
          · simp -dsimp -implicitDefEqProofs (disch := omega) only [bnd_u, gd_t, if_true, if_false, ↓reduceIte, eq_self, true_or, or_true, false_or, or_false, not_true_eq_false, not_false_eq_true, and_true, true_and, and_false, false_and, reduceCtorEq, nI_ge, nI_le, nI_lt, nI_nlt, nI_ne, nI_te, nm_eq, mn_eq, nm_le, mn_le, nm_lt, mn_lt, pk_mul, nI_add, pk_sub, nI_clamp, eX8_alter, eX8_alter_32, hTop, hFam, f_one hI.F hI.G hk, c_flag hj, hat, hput]
        · have hp := m_puts (x := nI v) hM1 (show 5 * j + k < 74 by omega)
          rcases (show j = 0 ∨ j = 1 by omega) with rfl | rfl
          · have hin := m_0n (M := mk (up g 3 (k * 2 + 0) (nI v))) (n := 4) (show v < 4 by omega) (by omega)
            simp -dsimp -implicitDefEqProofs (disch := omega) only [bnd_u, gd_t, if_true, if_false, ↓reduceIte, eq_self, true_or, or_true, false_or, or_false, not_true_eq_false, not_false_eq_true, and_true, true_and, and_false, false_and, reduceCtorEq, nI_ge, nI_le, nI_lt, nI_nlt, nI_ne, nI_te, nm_eq, mn_eq, nm_le, mn_le, nm_lt, mn_lt, pk_mul, nI_add, pk_sub, nI_clamp, eX9_alter, eX9_alter_37, eX9_alter_42, hMo, m_one hM1 hK hk, hin, hp]
          · simp -dsimp -implicitDefEqProofs (disch := omega) only [bnd_u, gd_t, if_true, if_false, ↓reduceIte, eq_self, true_or, or_true, false_or, or_false, not_true_eq_false, not_false_eq_true, and_true, true_and, and_false, false_and, reduceCtorEq, nI_ge, nI_le, nI_lt, nI_nlt, nI_ne, nI_te, nm_eq, mn_eq, nm_le, mn_le, nm_lt, mn_lt, pk_mul, nI_add, pk_sub, nI_clamp, eX9_alter, eX9_alter_25, eX9_alter_37, eX9_alter_42, hMo, m_one hM1 hK hk, m_thing (show v < 3 by omega), hp]
        · rw [up_n (by decide)]; exact Ro_pt hI.R (by omega)
