def o_no {ρ : Type} : Kt ρ := fun _ _ _ => none
def o_fg {ρ : Type} (i : Nat) (K : Kt ρ) : Kt ρ := fun L st M => K (L.set i none) st M
def o_i2c (x : Int32) : Int32 := (x.toUInt32 % 65536).toInt32
def o_xln {ρ : Type} (K : Kt ρ) : Kt ρ := fun L st M => match st with
  | .ref a :: r => if a = 1009 then K L (.int 4 :: r) M else none
  | _ => none
def o_xI {ρ : Type} (K : Kt ρ) : Kt ρ := fun L st M => match st with
  | .int i :: .ref a :: r => if a = 1009 ∧ ¬ i < 0 ∧ i.toNatClampNeg < 4 then K L (.int (([3, 2, 9, 6] : List Int32).getD i.toNatClampNeg 0) :: r) M else none
  | _ => none
def o_xco {ρ : Type} (K : Kt ρ) : Kt ρ := fun L st M => match st with
  | .ref a :: r => if 1000 ≤ a ∧ a < 1009 then K L (.int 0 :: r) M else none
  | _ => none
def o_xva {ρ : Type} (K : Kt ρ) : Kt ρ := fun L st M => match st with
  | .ref a :: r => if 1000 ≤ a ∧ a < 1009 then K L (.ref (a + 10) :: r) M else none
  | _ => none
def o_xbl {ρ : Type} (K : Kt ρ) : Kt ρ := fun L st M => match st with
  | .ref a :: r => if 1010 ≤ a ∧ a < 1019 then K L (.int (Int32.ofNat (ex_len.getD (a - 1010) 0)) :: r) M else none
  | _ => none
def o_xbb {ρ : Type} (K : Kt ρ) : Kt ρ := fun L st M => match st with
  | .int i :: .ref a :: r => if 1010 ≤ a ∧ a < 1019 ∧ ¬ i < 0 ∧ i.toNatClampNeg < ex_len.getD (a - 1010) 0 then K L (.int ((ex_byt.getD (a - 1010) []).getD i.toNatClampNeg 0) :: r) M else none
  | _ => none
def o_xvc {ρ ρ' : Type} (ev' : ρ' → Option Value) (n : Nat) (f : Mt ρ') (K : Kt ρ) : Kt ρ := fun L st M => match (st.take n).reverse with
  | .ref b :: as => gd (decide (as.length + 1 = n)) (gd (decide ((st.drop n).length ≤ 4)) (gd (decide (1000 ≤ b ∧ b < 1009)) ((f (.ref b :: as) M).bind fun q => K L ((ev' q.1).toList ++ st.drop n) q.2)))
  | _ => none
def o_sln {ρ : Type} (N : Nat) (K : Kt ρ) : Kt ρ := fun L st M => match st with
  | .ref a :: r => if a = 1022 then K L (.int (Int32.ofNat N) :: r) M else none
  | _ => none
def o_sld {ρ : Type} (N : Nat) (xs : Nat → Int32) (K : Kt ρ) : Kt ρ := fun L st M => match st with
  | .int i :: .ref a :: r => if a = 1022 ∧ ¬ i < 0 ∧ i.toNatClampNeg < N then K L (.int (xs i.toNatClampNeg) :: r) M else none
  | _ => none
def o_rmc {ρ : Type} (c : Int32) (K : Kt ρ) : Kt ρ := fun L st M => match st with
  | .int x :: r => K L (.int (x - x / c * c) :: r) M
  | _ => none
def o_dvc {ρ : Type} (c : Int32) (K : Kt ρ) : Kt ρ := fun L st M => match st with
  | .int x :: r => K L (.int (x / c) :: r) M
  | _ => none
def o_lvc {ρ : Type} (c : Int64) (K : Kt ρ) : Kt ρ := fun L st M => match st with
  | .long x :: r => K L (.long (x / c) :: r) M
  | _ => none
def o_rN (ty : FieldType) : Kt Int32 := fun _ st M => match st with
  | [.int x] => if narrow ty (.int x) = .int x then some (x, M) else none
  | _ => none
theorem ex_am_hi {g : Gx} {k : Nat} (h : 1000 ≤ k) : ex_am g k = g.2.1 k := if_neg (Nat.not_lt.mpr h)
theorem ex_kept {g : Gx} {s : State} (hq : ∀ q : Nat, q < ex_z g → s.heap[q]? = g.1.heap[q]?) : ∀ a : Nat, a < g.1.heap.size → ¬ ex_A g a → s.heap[a]? = g.1.heap[a]? := fun a h _ => hq a h
theorem ex_off {a b : Nat} (n : Nat) (h : b ≤ a) (h2 : a < b + n) : ∃ i : Nat, a = b + i ∧ i < n := ⟨a - b, by omega, by omega⟩
section RX
variable {ρ ρ' : Type} {ev : ρ → Option Value} {ev' : ρ' → Option Value} {P : Px} {pc : Nat} {K K2 : Kt ρ}
theorem sd_fg {i : Nat} (h : Sd P ev pc K) : Sd P ev pc (o_fg i K) := by
  intro L st M r h1
  obtain ⟨hm, hw⟩ := h _ _ _ _ h1
  exact ⟨hm, fun X F h2 => by
    obtain ⟨g, p, l, e, R, s, m, args, below, meth, c, rr, n0, s0⟩ := X
    have hw := hw _ F h2
    exact fun ls H locs hl hp => hw ls H locs ⟨hl.1, hl.2.1, fun q hq => hl.2.2 q (by
      obtain ⟨v, h3, h4⟩ := ex_pr_mem.mp hq
      rw [List.getElem?_set] at h3
      split at h3
      · split at h3 <;> cases h3
      · exact ex_pr_mem.mpr ⟨v, h3, h4⟩)⟩ hp⟩
theorem sd_no : Sd P ev pc (o_no : Kt ρ) := by
  intro L st M r h1
  cases h1
theorem sd_keep {index : Nat} {host : String} (hl0 : Cond.fieldLinkNest P.2.2.1 index RX8 "KEEPS" "[I" host ∈ lw_tbl) (d : decode P.1 pc = .ok (.getstatic index, 3)) (h : Sd P ev (pc + 3) K) : Sd P ev pc (o_psh (.ref 1009) K) := by
  intro L st M r h1
  obtain ⟨hm, hw⟩ := h _ _ _ _ h1
  exact ⟨hm, fun X F h2 => by
      obtain ⟨g, p, l, e, R, s, m, args, below, meth, c, rr, n0, s0⟩ := X
      have hw := hw _ F h2
      obtain ⟨hOk, hW0, hz, hq, hx, hb, hml, hown, hts, hr, hlk, hnm, hK, hfr, hlo, hRc, hRs, hhyp⟩ := F
      obtain ⟨hX1, hX2, hX3, hX4, hX5, hX6⟩ := hOk.2.2
      intro ls H locs hl hp
      have hZ := (va_Z.moved hW0.alike hX1).kept (ex_kept hq)
      have h6 := hw ls H locs hl hp
      rw [List.map_cons, show ex_cv g (.ref 1009) = .ref (g.2.1 1009) from congrArg Value.ref (ex_am_hi (by decide))] at h6
      exact va_getsN hx hb hZ hp.2.2.1 hown (va_Nw.use rfl (va_Nw.warmF hW0 (va_Nw.of rfl (hOk.1.choose_spec.1 _ hl0)))) (fun _ h9 => h9) d h6⟩
theorem sd_gcs {index : Nat} (hl0 : Cond.fieldLink P.2.2.1 index "java/lang/String" "COMPACT_STRINGS" "Z" ∈ ex_tb) (d : decode P.1 pc = .ok (.getstatic index, 3)) (h : Sd P ev (pc + 3) K) : Sd P ev pc (o_psh (.int 1) K) := by
  intro L st M r h1
  obtain ⟨hm, hw⟩ := h _ _ _ _ h1
  exact ⟨hm, fun X F h2 => by
      obtain ⟨g, p, l, e, R, s, m, args, below, meth, c, rr, n0, s0⟩ := X
      have hw := hw _ F h2
      obtain ⟨hOk, hW0, hz, hq, hx, hb, hml, hown, hts, hr, hlk, hnm, hK, hfr, hlo, hRc, hRs, hhyp⟩ := F
      obtain ⟨hX1, hX2, hX3, hX4, hX5, hX6⟩ := hOk.2.2
      intro ls H locs hl hp
      have hZ := (va_Z.moved hW0.alike hX3).kept (ex_kept hq)
      exact va_gets hx hb hZ hp.2.2.1 hown (hts _ hl0) (fun _ h9 => h9) d (hw ls H locs hl hp)⟩
theorem sd_gsi {index : Nat} (hl0 : Cond.fieldLink P.2.2.1 index "jdk/internal/util/Preconditions" "SIOOBE_FORMATTER" "Ljava/util/function/BiFunction;" ∈ ex_tb) (d : decode P.1 pc = .ok (.getstatic index, 3)) (h : Sd P ev (pc + 3) K) : Sd P ev pc (o_psh (.retAddr 0) K) := by
  intro L st M r h1
  obtain ⟨hm, hw⟩ := h _ _ _ _ h1
  exact ⟨hm, fun X F h2 => by
      obtain ⟨g, p, l, e, R, s, m, args, below, meth, c, rr, n0, s0⟩ := X
      have hw := hw _ F h2
      obtain ⟨hOk, hW0, hz, hq, hx, hb, hml, hown, hts, hr, hlk, hnm, hK, hfr, hlo, hRc, hRs, hhyp⟩ := F
      obtain ⟨hX1, hX2, hX3, hX4, hX5, hX6⟩ := hOk.2.2
      intro ls H locs hl hp
      have hZ := (va_Z.moved hW0.alike hX6).kept (ex_kept hq)
      exact va_gets hx hb hZ hp.2.2.1 hown (hts _ hl0) (fun _ h9 => h9) d (hw ls H locs hl hp)⟩
theorem sd_ldcS {index i : Nat} {tx : String} (hown9 : P.2.2.1 = RX5) (hp9 : ex_pool[i]? = some (index, tx)) (d : decode P.1 pc = .ok (.ldc index, 2)) (h : Sd P ev (pc + 2) K) : Sd P ev pc (o_psh (.ref (1000 + i)) K) := by
  intro L st M r h1
  obtain ⟨hm, hw⟩ := h _ _ _ _ h1
  exact ⟨hm, fun X F h2 => by
      obtain ⟨g, p, l, e, R, s, m, args, below, meth, c, rr, n0, s0⟩ := X
      have hw := hw _ F h2
      obtain ⟨hOk, hW0, hz, hq, hx, hb, hml, hown, hts, hr, hlk, hnm, hK, hfr, hlo, hRc, hRs, hhyp⟩ := F
      obtain ⟨hX1, hX2, hX3, hX4, hX5, hX6⟩ := hOk.2.2
      intro ls H locs hl hp
      have hR := vk_R.warm hW0 (hX5 i _ hp9)
      have h6 := hw ls H locs hl hp
      rw [List.map_cons, show ex_cv g (.ref (1000 + i)) = .ref (g.2.1 (1000 + i)) from congrArg Value.ref (ex_am_hi (by omega))] at h6
      exact va_ldcS hx hb (by rw [hown9] at hown; exact hown) hR d h6⟩
theorem sd_xln (d : decode P.1 pc = .ok (.arraylength, 1)) (h : Sd P ev (pc + 1) K) : Sd P ev pc (o_xln K) := by
  intro L st M r h1
  unfold o_xln at h1
  split at h1
  · rename_i a r0
    split at h1
    · rename_i hck
      obtain ⟨hm, hw⟩ := h _ _ _ _ h1
      exact ⟨hm, fun X F h2 => by
      obtain ⟨g, p, l, e, R, s, m, args, below, meth, c, rr, n0, s0⟩ := X
      have hw := hw _ F h2
      obtain ⟨hOk, hW0, hz, hq, hx, hb, hml, hown, hts, hr, hlk, hnm, hK, hfr, hlo, hRc, hRs, hhyp⟩ := F
      obtain ⟨hX1, hX2, hX3, hX4, hX5, hX6⟩ := hOk.2.2
      intro ls H locs hl hp
      have hT := (va_T.moved hW0.alike hX2).kept (ex_kept hq)
      rw [List.map_cons, show ex_cv g (.ref a) = .ref (g.2.1 1009) from (by rw [hck]; exact congrArg Value.ref (ex_am_hi (by decide)))]
      exact va_tlen hx hb hT hp.2.2.1 rfl d (hw ls H locs hl hp)⟩
    · cases h1
  · cases h1
theorem sd_xI (d : decode P.1 pc = .ok (.iaload, 1)) (h : Sd P ev (pc + 1) K) : Sd P ev pc (o_xI K) := by
  intro L st M r h1
  unfold o_xI at h1
  split at h1
  · rename_i i a r0
    split at h1
    · rename_i hck
      obtain ⟨hm, hw⟩ := h _ _ _ _ h1
      exact ⟨hm, fun X F h2 => by
      obtain ⟨g, p, l, e, R, s, m, args, below, meth, c, rr, n0, s0⟩ := X
      have hw := hw _ F h2
      obtain ⟨hOk, hW0, hz, hq, hx, hb, hml, hown, hts, hr, hlk, hnm, hK, hfr, hlo, hRc, hRs, hhyp⟩ := F
      obtain ⟨hX1, hX2, hX3, hX4, hX5, hX6⟩ := hOk.2.2
      intro ls H locs hl hp
      have hT := (va_T.moved hW0.alike hX2).kept (ex_kept hq)
      rw [List.map_cons, List.map_cons, show ex_cv g (.ref a) = .ref (g.2.1 1009) from (by rw [hck.1]; exact congrArg Value.ref (ex_am_hi (by decide)))]
      exact va_ti hx hb hT hp.2.2.1 (fun q => q.elim hck.2.1 (Nat.not_le.mpr hck.2.2)) rfl d (hw ls H locs hl hp)⟩
    · cases h1
  · cases h1
theorem sd_xco {index : Nat} (hl0 : Cond.fieldLink P.2.2.1 index "java/lang/String" "coder" "B" ∈ ex_tb) (d : decode P.1 pc = .ok (.getfield index, 3)) (h : Sd P ev (pc + 3) K) : Sd P ev pc (o_xco K) := by
  intro L st M r h1
  unfold o_xco at h1
  split at h1
  · rename_i a r0
    split at h1
    · rename_i hck
      obtain ⟨hm, hw⟩ := h _ _ _ _ h1
      exact ⟨hm, fun X F h2 => by
      obtain ⟨g, p, l, e, R, s, m, args, below, meth, c, rr, n0, s0⟩ := X
      have hw := hw _ F h2
      obtain ⟨hOk, hW0, hz, hq, hx, hb, hml, hown, hts, hr, hlk, hnm, hK, hfr, hlo, hRc, hRs, hhyp⟩ := F
      obtain ⟨hX1, hX2, hX3, hX4, hX5, hX6⟩ := hOk.2.2
      intro ls H locs hl hp
      obtain ⟨i, rfl, hi9⟩ := ex_off 9 hck.1 hck.2
      have hE := (va_OF.moved hW0.alike (hX4.1 i (by omega)).2.1).kept (ex_kept hq)
      rw [List.map_cons, show ex_cv g (.ref (1000 + i)) = .ref (g.2.1 (1000 + i)) from congrArg Value.ref (ex_am_hi (by omega))]
      exact vk_getf hx hb hE hp.2.2.1 hown (hts _ hl0) (fun _ h9 => h9) d (hw ls H locs hl hp)⟩
    · cases h1
  · cases h1
theorem sd_xva {index : Nat} (hl0 : Cond.fieldLink P.2.2.1 index "java/lang/String" "value" "[B" ∈ ex_tb) (d : decode P.1 pc = .ok (.getfield index, 3)) (h : Sd P ev (pc + 3) K) : Sd P ev pc (o_xva K) := by
  intro L st M r h1
  unfold o_xva at h1
  split at h1
  · rename_i a r0
    split at h1
    · rename_i hck
      obtain ⟨hm, hw⟩ := h _ _ _ _ h1
      exact ⟨hm, fun X F h2 => by
      obtain ⟨g, p, l, e, R, s, m, args, below, meth, c, rr, n0, s0⟩ := X
      have hw := hw _ F h2
      obtain ⟨hOk, hW0, hz, hq, hx, hb, hml, hown, hts, hr, hlk, hnm, hK, hfr, hlo, hRc, hRs, hhyp⟩ := F
      obtain ⟨hX1, hX2, hX3, hX4, hX5, hX6⟩ := hOk.2.2
      intro ls H locs hl hp
      obtain ⟨i, rfl, hi9⟩ := ex_off 9 hck.1 hck.2
      have hE := (va_OF.moved hW0.alike (hX4.1 i (by omega)).2.2.1).kept (ex_kept hq)
      have h6 := hw ls H locs hl hp
      rw [List.map_cons, show ex_cv g (.ref (1000 + i + 10)) = .ref (g.2.1 (1010 + i)) from (by rw [show 1000 + i + 10 = 1010 + i by omega]; exact congrArg Value.ref (ex_am_hi (by omega)))] at h6
      rw [List.map_cons, show ex_cv g (.ref (1000 + i)) = .ref (g.2.1 (1000 + i)) from congrArg Value.ref (ex_am_hi (by omega))]
      exact vk_getf hx hb hE hp.2.2.1 hown (hts _ hl0) (fun _ h9 => h9) d h6⟩
    · cases h1
  · cases h1
theorem sd_xbl (d : decode P.1 pc = .ok (.arraylength, 1)) (h : Sd P ev (pc + 1) K) : Sd P ev pc (o_xbl K) := by
  intro L st M r h1
  unfold o_xbl at h1
  split at h1
  · rename_i a r0
    split at h1
    · rename_i hck
      obtain ⟨hm, hw⟩ := h _ _ _ _ h1
      exact ⟨hm, fun X F h2 => by
      obtain ⟨g, p, l, e, R, s, m, args, below, meth, c, rr, n0, s0⟩ := X
      have hw := hw _ F h2
      obtain ⟨hOk, hW0, hz, hq, hx, hb, hml, hown, hts, hr, hlk, hnm, hK, hfr, hlo, hRc, hRs, hhyp⟩ := F
      obtain ⟨hX1, hX2, hX3, hX4, hX5, hX6⟩ := hOk.2.2
      intro ls H locs hl hp
      obtain ⟨i, rfl, hi9⟩ := ex_off 9 hck.1 hck.2
      have hT := (va_T.moved hW0.alike (hX4.1 i (by omega)).2.2.2).kept (ex_kept hq)
      rw [List.map_cons, show ex_cv g (.ref (1010 + i)) = .ref (g.2.1 (1010 + i)) from congrArg Value.ref (ex_am_hi (by omega))]
      exact va_tlen hx hb hT hp.2.2.1 (by rw [show 1010 + i - 1010 = i by omega]) d (hw ls H locs hl hp)⟩
    · cases h1
  · cases h1
theorem sd_xbb (d : decode P.1 pc = .ok (.baload, 1)) (h : Sd P ev (pc + 1) K) : Sd P ev pc (o_xbb K) := by
  intro L st M r h1
  unfold o_xbb at h1
  split at h1
  · rename_i j a r0
    split at h1
    · rename_i hck
      obtain ⟨hm, hw⟩ := h _ _ _ _ h1
      exact ⟨hm, fun X F h2 => by
      obtain ⟨g, p, l, e, R, s, m, args, below, meth, c, rr, n0, s0⟩ := X
      have hw := hw _ F h2
      obtain ⟨hOk, hW0, hz, hq, hx, hb, hml, hown, hts, hr, hlk, hnm, hK, hfr, hlo, hRc, hRs, hhyp⟩ := F
      obtain ⟨hX1, hX2, hX3, hX4, hX5, hX6⟩ := hOk.2.2
      intro ls H locs hl hp
      obtain ⟨g1, g2, g3, g4⟩ := hck
      obtain ⟨i, rfl, hi9⟩ := ex_off 9 g1 g2
      have hT := (va_T.moved hW0.alike (hX4.1 i (by omega)).2.2.2).kept (ex_kept hq)
      rw [show 1010 + i - 1010 = i by omega] at g4 hw
      rw [List.map_cons, List.map_cons, show ex_cv g (.ref (1010 + i)) = .ref (g.2.1 (1010 + i)) from congrArg Value.ref (ex_am_hi (by omega))]
      exact va_tb hx hb hT hp.2.2.1 (fun q => q.elim g3 (Nat.not_le.mpr g4)) rfl d (hw ls H locs hl hp)⟩
    · cases h1
  · cases h1
theorem sd_i2c (d : decode P.1 pc = .ok (.i2c, 1)) (h : Sd P ev (pc + 1) K) : Sd P ev pc (o_i1 o_i2c K) := by
  intro L st M r h1
  unfold o_i1 at h1
  split at h1
  · obtain ⟨hm, hw⟩ := h _ _ _ _ h1
    exact ⟨hm, fun X F h2 => by
      obtain ⟨g, p, l, e, R, s, m, args, below, meth, c, rr, n0, s0⟩ := X
      have hw := hw _ F h2
      obtain ⟨hOk, hW0, hz, hq, hx, hb, hml, hown, hts, hr, hlk, hnm, hK, hfr, hlo, hRc, hRs, hhyp⟩ := F
      exact fun ls H locs hl hp => lv_i2c hx hb d rfl (hw ls H locs hl hp)⟩
  · cases h1
theorem sd_mabs {index : Nat} (ml : MM P.2.2.1 index Lib.Math.abs.name Lib.Math.abs.code 1) (hR : 1 ≤ P.2.2.2.2.2.1 ∧ 21 ≤ P.2.2.2.2.2.2.1) (d : decode P.1 pc = .ok (.invokestatic index, 3)) (h : Sd P ev (pc + 3) K) : Sd P ev pc (o_m1 (fun x => if 0 ≤ x then x else 0 - x) K) := by
  intro L st M r h1
  unfold o_m1 at h1
  split at h1
  · rename_i x r0
    · obtain ⟨hck0, h1⟩ := gd_sp h1
      have hck := of_decide_eq_true hck0
      obtain ⟨hm, hw⟩ := h _ _ _ _ h1
      refine ⟨hm, fun X F h2 => ?_⟩
      obtain ⟨g, p, l, e, R, s, m, args, below, meth, c, rr, n0, s0⟩ := X
      have hw := hw _ F h2
      obtain ⟨hOk, hW0, hz, hq, hx, hb, hml, hown, hts, hr, hlk, hnm, hK, hfr, hlo, hRc, hRs, hhyp⟩ := F
      have h3 : (ev r.1, r.2) = rr := h2
      subst h3
      intro ls H locs hl hp
      have h8 := ex_cs' (g := g) hck
      exact va_mabs hx hb hl.1.symm hown (hts _ ml.1) (hts _ ml.2.1) (hts _ ml.2.2.1) (hts _ ml.2.2.2) (Nat.le_trans hR.1 hfr) (by have := hR.2; have := hlo; omega) (by have h9 : List.length r.2 - n0 ≤ R.cells := hRc; have := hm.1; omega) (by have h9 : ex_sl r.2 - s0 ≤ R.slots := hRs; have := hm.2; omega) d (hw ls H locs hl hp)
  · cases h1
theorem sd_rN {ty : FieldType} (hrt : P.2.2.2.2.1 = some ty) (d : decode P.1 pc = .ok (.ireturn, 1)) : Sd P ev_i pc (o_rN ty) := by
  intro L st M r h1
  unfold o_rN at h1
  split at h1
  · rename_i x
    split at h1
    · rename_i h01
      cases h1
      refine ⟨⟨Nat.le_refl _, Nat.le_refl _⟩, fun X F h2 => ?_⟩
      obtain ⟨g, p, l, e, R, s, m, args, below, meth, c, rr, n0, s0⟩ := X
      obtain ⟨hOk, hW0, hz, hq, hx, hb, hml, hown, hts, hr, hlk, hnm, hK, hfr, hlo, hRc, hRs, hhyp⟩ := F
      have h3 : (ev_i x, M) = rr := h2
      subst h3
      intro ls H locs hl hp T hT XX
      subst hT
      have hsz := hp.size hz XX
      exact W.zret (v := x) hx hb (hr.trans hrt) h01 (fun t ht hW => ⟨rfl, by rw [ht]; exact hsz, hp.1, by rw [ht]; exact hp.2.1, hp.2.2.1.F ht⟩) hp.2.2.1.2.2 d hlk T rfl XX
    · cases h1
  · cases h1
theorem sd_xvc {rt : Option FieldType} {y : MethodName} {bytes : ByteArray} {maxL fr' lo' n index : Nat} {f : Mt ρ'} (hct : Ct ev' y bytes maxL rt fr' lo' f) (hev : ∀ (g : Gx) (x : ρ'), (ev' x).map (ex_cv g) = ev' x) (hcl : y.cls = "java/lang/String") (mw : MW y bytes maxL rt n) (mv : Cond.instanceMethod y ∈ ex_tb ∧ Cond.selects y.cls y y ∈ ex_tb) (ml : Cond.methodLink P.2.2.1 index y ∈ ex_tb) (hR : fr' + 1 ≤ P.2.2.2.2.2.1 ∧ 8 + (maxL + 11) + lo' ≤ P.2.2.2.2.2.2.1) (d : decode P.1 pc = .ok (.invokevirtual index, 3)) (h : Sd P ev (pc + 3) K) : Sd P ev pc (o_xvc ev' (n + 1) f K) := by
  intro L st M r h1
  unfold o_xvc at h1
  split at h1
  · rename_i b as hst
    · obtain ⟨hck1, h1⟩ := gd_sp h1
      obtain ⟨hck2, h1⟩ := gd_sp h1
      obtain ⟨hck3, h1⟩ := gd_sp h1
      have hck3 := of_decide_eq_true hck3
      obtain ⟨q, hf, h1⟩ := Option.bind_eq_some_iff.mp h1
      obtain ⟨hm, hw⟩ := h _ _ _ _ h1
      have hmq := (hct.1 _ M q hf)
      refine ⟨⟨Nat.le_trans hmq.1 hm.1, Nat.le_trans hmq.2 hm.2⟩, fun X F h2 => ?_⟩
      obtain ⟨g, p, l, e, R, s, m, args, below, meth, c0, rr, n0, s0⟩ := X
      have hw := hw _ F h2
      obtain ⟨hOk, hW0, hz, hq, hx, hb, hml, hown, hts, hr, hlk, hnm, hK, hfr, hlo, hRc, hRs, hhyp⟩ := F
      have h3 : (ev r.1, r.2) = rr := h2
      subst h3
      have hM := hct.2 l g _ M q hOk hf
      obtain ⟨hX1, hX2, hX3, hX4, hX5, hX6⟩ := hOk.2.2
      intro ls H locs hl hp T1 hT XX
      subst hT
      have hsz := hp.size hz XX
      have hn0 := hp.2.2.2.1
      have hs0 := hp.2.2.2.2
      rw [ex_stk (g := g) hst]
      obtain ⟨i, rfl, hi9⟩ := ex_off 9 hck3.1 hck3.2
      have hE := (vk_S.moved hW0.alike hX4).kept (ex_kept hq)
      have hrv := vk_recv (i := i) hE (by omega) hp.2.2.1
      rw [← ex_am_hi (g := g) (k := 1000 + i) (by omega), ← hcl] at hrv
      refine ex_call (rr := (ev' q.1, q.2)) (rest := (st.drop (n + 1)).map (ex_cv g)) (va_runV (As := as.map (ex_cv g)) (b := ex_am g (1000 + i)) (C := y.cls) ⟨hx, hb, hml, hown, hts⟩ hM ⟨callB_of n hts (ex_good mw.1) rfl rfl rfl (hts _ mw.2.1) (hts _ ml) mw.2.2 ⟨Nat.le_trans hR.1 hfr, Nat.le_trans hR.2 hlo⟩, hts _ mv.1, hts _ mv.2⟩ ⟨ex_blind, hrv, fun U hU hW => ⟨rfl, ex_wd hp hsz hW0 hz hq hU hW⟩⟩ rfl (by rw [List.length_map]; exact Nat.succ.inj (of_decide_eq_true hck1)) (hl.1.trans hml) rfl (lv_room (ex_cs' (of_decide_eq_true hck2))) d ⟨by have h9 : List.length r.2 - n0 ≤ R.cells := hRc; have := hm.1; have := hmq.1; omega, by have h9 : ex_sl r.2 - s0 ≤ R.slots := hRs; have := hm.2; have := hmq.2; omega⟩) hp.2.2.1 (fun H1 locs1 h5 hP1 hS1 => ?_) T1 rfl XX
      have := hm.1; have := hmq.1; have := hm.2; have := hmq.2
      have h6 := hw ls H1 locs1 hl ⟨h5, hP1, hS1, by omega, by omega⟩
      rw [List.map_append, ← Option.toList_map, hev] at h6
      exact W.cs (by omega) (by omega) h6
  · cases h1
theorem sd_sln {N : Nat} {xs : Nat → Int32} (hy0 : P.2.2.2.2.2.2.2 = fun g => va_X (g.2.1 1022) N xs g.1 g.1.heap ∧ g.2.1 1022 < ex_z g) (d : decode P.1 pc = .ok (.arraylength, 1)) (h : Sd P ev (pc + 1) K) : Sd P ev pc (o_sln N K) := by
  intro L st M r h1
  unfold o_sln at h1
  split at h1
  · rename_i a r0
    split at h1
    · rename_i hck
      obtain ⟨hm, hw⟩ := h _ _ _ _ h1
      exact ⟨hm, fun X F h2 => by
      obtain ⟨g, p, l, e, R, s, m, args, below, meth, c, rr, n0, s0⟩ := X
      have hw := hw _ F h2
      obtain ⟨hOk, hW0, hz, hq, hx, hb, hml, hown, hts, hr, hlk, hnm, hK, hfr, hlo, hRc, hRs, hhyp⟩ := F
      obtain ⟨hX1, hX2, hX3, hX4, hX5, hX6⟩ := hOk.2.2
      rw [hy0] at hhyp
      intro ls H locs hl hp
      have hX9 := (va_X.moved hW0.alike hhyp.1).kept (H1 := s.heap) (hq _ hhyp.2)
      have hbl : g.2.1 1022 < s.heap.size := by have := hhyp.2; omega
      have hbA : ¬ ex_A g (g.2.1 1022) := Nat.not_le.mpr hhyp.2
      rw [List.map_cons, show ex_cv g (.ref a) = .ref (g.2.1 1022) from (by rw [hck]; exact congrArg Value.ref (ex_am_hi (by decide)))]
      exact va_slen hx hb hX9 hbl hbA hp.2.2.1 d (hw ls H locs hl hp)⟩
    · cases h1
  · cases h1
theorem sd_sld {N : Nat} {xs : Nat → Int32} (hy0 : P.2.2.2.2.2.2.2 = fun g => va_X (g.2.1 1022) N xs g.1 g.1.heap ∧ g.2.1 1022 < ex_z g) (d : decode P.1 pc = .ok (.iaload, 1)) (h : Sd P ev (pc + 1) K) : Sd P ev pc (o_sld N xs K) := by
  intro L st M r h1
  unfold o_sld at h1
  split at h1
  · rename_i i a r0
    split at h1
    · rename_i hck
      obtain ⟨hm, hw⟩ := h _ _ _ _ h1
      exact ⟨hm, fun X F h2 => by
      obtain ⟨g, p, l, e, R, s, m, args, below, meth, c, rr, n0, s0⟩ := X
      have hw := hw _ F h2
      obtain ⟨hOk, hW0, hz, hq, hx, hb, hml, hown, hts, hr, hlk, hnm, hK, hfr, hlo, hRc, hRs, hhyp⟩ := F
      obtain ⟨hX1, hX2, hX3, hX4, hX5, hX6⟩ := hOk.2.2
      rw [hy0] at hhyp
      intro ls H locs hl hp
      have hX9 := (va_X.moved hW0.alike hhyp.1).kept (H1 := s.heap) (hq _ hhyp.2)
      have hbl : g.2.1 1022 < s.heap.size := by have := hhyp.2; omega
      have hbA : ¬ ex_A g (g.2.1 1022) := Nat.not_le.mpr hhyp.2
      rw [List.map_cons, List.map_cons, show ex_cv g (.ref a) = .ref (g.2.1 1022) from (by rw [hck.1]; exact congrArg Value.ref (ex_am_hi (by decide)))]
      exact va_sld hx hb hX9 hbl hbA hp.2.2.1 (fun q => q.elim hck.2.1 (Nat.not_le.mpr hck.2.2)) d (hw ls H locs hl hp)⟩
    · cases h1
  · cases h1
theorem sd_rmc {c : Int32} (hc : ¬ c = 0) (h : Sd P ev pc (o_psh (.int c) (o_irm K))) : Sd P ev pc (o_rmc c K) := by
  intro L st M r h1
  unfold o_rmc at h1
  split at h1
  · refine h _ _ _ _ ?_
    unfold o_psh o_irm
    dsimp only
    rw [if_neg hc]
    exact h1
  · cases h1
theorem sd_dvc {c : Int32} (hc : ¬ c = 0) (h : Sd P ev pc (o_psh (.int c) (o_idv K))) : Sd P ev pc (o_dvc c K) := by
  intro L st M r h1
  unfold o_dvc at h1
  split at h1
  · refine h _ _ _ _ ?_
    unfold o_psh o_idv
    dsimp only
    rw [if_neg hc]
    exact h1
  · cases h1
theorem sd_lvc {c : Int64} (hc : ¬ c = 0) (h : Sd P ev pc (o_psh (.long c) (o_ldv K))) : Sd P ev pc (o_lvc c K) := by
  intro L st M r h1
  unfold o_lvc at h1
  split at h1
  · refine h _ _ _ _ ?_
    unfold o_psh o_ldv
    dsimp only
    rw [if_neg hc]
    exact h1
  · cases h1
end RX
