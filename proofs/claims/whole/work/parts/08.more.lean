def o_m2 {ρ : Type} (f : Int32 → Int32 → Int32) (K : Kt ρ) : Kt ρ := fun L st M => match st with
  | .int y :: .int x :: r => gd (decide (r.length ≤ 4)) (K L (.int (f x y) :: r) M)
  | _ => none
def o_m1 {ρ : Type} (f : Int32 → Int32) (K : Kt ρ) : Kt ρ := fun L st M => match st with
  | .int x :: r => gd (decide (r.length ≤ 4)) (K L (.int (f x) :: r) M)
  | _ => none
section RM
variable {ρ : Type} {ev : ρ → Option Value} {P : Px} {pc : Nat} {K K2 : Kt ρ}
theorem sd_rI (hrt : P.2.2.2.2.1 = some .int) (d : decode P.1 pc = .ok (.ireturn, 1)) : Sd P ev_i pc o_rI := by
  intro L st M r h1
  unfold o_rI at h1
  split at h1
  · rename_i x
    cases h1
    refine ⟨⟨Nat.le_refl _, Nat.le_refl _⟩, fun X F h2 => ?_⟩
    obtain ⟨g, p, l, e, R, s, m, args, below, meth, c, rr, n0, s0⟩ := X
    obtain ⟨hOk, hW0, hz, hq, hx, hb, hml, hown, hts, hr, hlk, hnm, hK, hfr, hlo, hRc, hRs, hhyp⟩ := F
    have h3 : (ev_i x, M) = rr := h2
    subst h3
    intro ls H locs hl hp T hT XX
    subst hT
    have hsz := hp.size hz XX
    exact W.iret (v := x) hx hb (hr.trans hrt) (fun t ht hW => ⟨rfl, by rw [ht]; exact hsz, hp.1, by rw [ht]; exact hp.2.1, hp.2.2.1.F ht⟩) hp.2.2.1.2.2 d hlk T rfl XX
  · cases h1
theorem sd_rZ (hrt : P.2.2.2.2.1 = some .boolean) (d : decode P.1 pc = .ok (.ireturn, 1)) : Sd P ev_i pc o_rZ := by
  intro L st M r h1
  unfold o_rZ at h1
  split at h1
  · rename_i x
    split at h1
    · rename_i h01
      cases h1
      refine ⟨⟨Nat.le_refl _, Nat.le_refl _⟩, fun X F h2 => ?_⟩
      obtain ⟨g, p, l, e, R, s, m, args, below, meth, c, rr, n0, s0⟩ := X
      obtain ⟨hOk, hW0, hz, hq, hx, hb, hml, hown, hts, hr, hlk, hnm, hK, hfr, hlo, hRc, hRs, hhyp⟩ := F
      have h3 : (ev_i x, M) = rr := h2
      subst h3
      intro ls H locs hl hp T hT XX
      subst hT
      have hsz := hp.size hz XX
      exact W.zret (v := x) hx hb (hr.trans hrt) (by rcases h01 with rfl | rfl <;> rfl) (fun t ht hW => ⟨rfl, by rw [ht]; exact hsz, hp.1, by rw [ht]; exact hp.2.1, hp.2.2.1.F ht⟩) hp.2.2.1.2.2 d hlk T rfl XX
    · cases h1
  · cases h1
theorem sd_rL (hrt : P.2.2.2.2.1 = some .long) (d : decode P.1 pc = .ok (.lreturn, 1)) : Sd P ev_l pc o_rL := by
  intro L st M r h1
  unfold o_rL at h1
  split at h1
  · rename_i x
    cases h1
    refine ⟨⟨Nat.le_refl _, Nat.le_refl _⟩, fun X F h2 => ?_⟩
    obtain ⟨g, p, l, e, R, s, m, args, below, meth, c, rr, n0, s0⟩ := X
    obtain ⟨hOk, hW0, hz, hq, hx, hb, hml, hown, hts, hr, hlk, hnm, hK, hfr, hlo, hRc, hRs, hhyp⟩ := F
    have h3 : (ev_l x, M) = rr := h2
    subst h3
    intro ls H locs hl hp T hT XX
    subst hT
    have hsz := hp.size hz XX
    exact W.lret (v := x) hx hb (hr.trans hrt) (fun t ht hW => ⟨rfl, by rw [ht]; exact hsz, hp.1, by rw [ht]; exact hp.2.1, hp.2.2.1.F ht⟩) hp.2.2.1.2.2 d hlk T rfl XX
  · cases h1
theorem sd_rV (hrt : P.2.2.2.2.1 = none) (d : decode P.1 pc = .ok (.return_, 1)) : Sd P ev_v pc o_rV := by
  intro L st M r h1
  unfold o_rV at h1
  split at h1
  · cases h1
    refine ⟨⟨Nat.le_refl _, Nat.le_refl _⟩, fun X F h2 => ?_⟩
    obtain ⟨g, p, l, e, R, s, m, args, below, meth, c, rr, n0, s0⟩ := X
    obtain ⟨hOk, hW0, hz, hq, hx, hb, hml, hown, hts, hr, hlk, hnm, hK, hfr, hlo, hRc, hRs, hhyp⟩ := F
    have h3 : (ev_v (), M) = rr := h2
    subst h3
    intro ls H locs hl hp T hT XX
    subst hT
    have hsz := hp.size hz XX
    exact W.vret hx hb (hr.trans hrt) (fun t ht hW => ⟨rfl, by rw [ht]; exact hsz, hp.1, by rw [ht]; exact hp.2.1, hp.2.2.1.F ht⟩) hp.2.2.1.2.2 d hlk T rfl XX
  · cases h1
theorem sd_oin {index : Nat} (ml : Cond.methodLink P.2.2.1 index objectInit ∈ ex_tb ∧ Cond.instanceMethod objectInit ∈ ex_tb ∧ Cond.code objectInit ⟨#[0xb1]⟩ 1 none ∈ ex_tb) (hR : 1 ≤ P.2.2.2.2.2.1 ∧ 20 ≤ P.2.2.2.2.2.2.1) (d : decode P.1 pc = .ok (.invokespecial index, 3)) (h : Sd P ev (pc + 3) K) : Sd P ev pc (o_oin K) := by
  intro L st M r h1
  unfold o_oin at h1
  split at h1
  · rename_i a r0
    · obtain ⟨hck0, h1⟩ := gd_sp h1
      have hck := of_decide_eq_true hck0
      obtain ⟨hm, hw⟩ := h _ _ _ _ h1
      refine ⟨hm, fun X F h2 => ?_⟩
      obtain ⟨g, p, l, e, R, s, m, args, below, meth, c, rr, n0, s0⟩ := X
      have hw := hw _ F h2
      obtain ⟨hOk, hW0, hz, hq, hx, hb, hml, hown, hts, hr, hlk, hnm, hK, hfr, hlo, hRc, hRs, hhyp⟩ := F
      intro ls H locs hl hp
      have h8 := ex_cs' (g := g) hck
      exact W.objInit hx hb hown (hts _ ml.1) (hts _ ml.2.1) (hts _ ml.2.2) rfl hl.1 rfl d (Nat.le_trans hR.1 hfr) (by have := hlo; have := lv_room (m := m) (pc := pc) (ls := ls) (rest := []) h8; have := hR.2; show 2 * 0 + _ + 12 ≤ _; omega) (hw ls H locs hl hp)
  · cases h1
theorem sd_ldc {index : Nat} {v : Int32} (hc : Cond.constant P.2.2.1 index v ∈ ex_tb) (d : decode P.1 pc = .ok (.ldc index, 2)) (h : Sd P ev (pc + 2) K) : Sd P ev pc (o_psh (.int v) K) := by
  intro L st M r h1
  obtain ⟨hm, hw⟩ := h _ _ _ _ h1
  exact ⟨hm, fun X F h2 => by
    obtain ⟨g, p, l, e, R, s, m, args, below, meth, c, rr, n0, s0⟩ := X
    have hw := hw _ F h2
    obtain ⟨hOk, hW0, hz, hq, hx, hb, hml, hown, hts, hr, hlk, hnm, hK, hfr, hlo, hRc, hRs, hhyp⟩ := F
    exact fun ls H locs hl hp => lv_ldc hx hb hown (hts _ hc) d (hw ls H locs hl hp)⟩
theorem sd_ldc2 {index : Nat} {v : Int64} (hc : Cond.constantLong P.2.2.1 index v ∈ ex_tb) (d : decode P.1 pc = .ok (.ldc2_w index, 3)) (h : Sd P ev (pc + 3) K) : Sd P ev pc (o_psh (.long v) K) := by
  intro L st M r h1
  obtain ⟨hm, hw⟩ := h _ _ _ _ h1
  exact ⟨hm, fun X F h2 => by
    obtain ⟨g, p, l, e, R, s, m, args, below, meth, c, rr, n0, s0⟩ := X
    have hw := hw _ F h2
    obtain ⟨hOk, hW0, hz, hq, hx, hb, hml, hown, hts, hr, hlk, hnm, hK, hfr, hlo, hRc, hRs, hhyp⟩ := F
    exact fun ls H locs hl hp => lv_ldc2 hx hb hown (hts _ hc) d (hw ls H locs hl hp)⟩
theorem sd_lcmp (d : decode P.1 pc = .ok (.lcmp, 1)) (h : Sd P ev (pc + 1) K) : Sd P ev pc (o_lcm K) := by
  intro L st M r h1
  unfold o_lcm at h1
  split at h1
  · obtain ⟨hm, hw⟩ := h _ _ _ _ h1
    exact ⟨hm, fun X F h2 => by
      obtain ⟨g, p, l, e, R, s, m, args, below, meth, c, rr, n0, s0⟩ := X
      have hw := hw _ F h2
      obtain ⟨hOk, hW0, hz, hq, hx, hb, hml, hown, hts, hr, hlk, hnm, hK, hfr, hlo, hRc, hRs, hhyp⟩ := F
      exact fun ls H locs hl hp => W.lcmp hx hb d (hw ls H locs hl hp)⟩
  · cases h1
/-- the words of a method of Math -/
def MM (own : String) (index : Nat) (y : MethodName) (b : ByteArray) (n : Nat) : Prop := Cond.methodLink own index y ∈ ex_tb ∧ Cond.static y ∈ ex_tb ∧ Cond.initialized "java/lang/Math" ∈ ex_tb ∧ Cond.code y b n (some .int) ∈ ex_tb
theorem sd_mmax {index : Nat} (ml : MM P.2.2.1 index Lib.Math.max.name Lib.Math.max.code 2) (hR : 1 ≤ P.2.2.2.2.2.1 ∧ 21 ≤ P.2.2.2.2.2.2.1) (d : decode P.1 pc = .ok (.invokestatic index, 3)) (h : Sd P ev (pc + 3) K) : Sd P ev pc (o_m2 (fun x y => if x < y then y else x) K) := by
  intro L st M r h1
  unfold o_m2 at h1
  split at h1
  · rename_i y x r0
    · obtain ⟨hck0, h1⟩ := gd_sp h1
      have hck := of_decide_eq_true hck0
      obtain ⟨hm, hw⟩ := h _ _ _ _ h1
      refine ⟨hm, fun X F h2 => ?_⟩
      obtain ⟨g, p, l, e, R, s, m, args, below, meth, c, rr, n0, s0⟩ := X
      have hw := hw _ F h2
      obtain ⟨hOk, hW0, hz, hq, hx, hb, hml, hown, hts, hr, hlk, hnm, hK, hfr, hlo, hRc, hRs, hhyp⟩ := F
      have h3 : (ev r.1, r.2) = rr := h2
      subst h3
      intro ls H locs hl hp
      have h8 := ex_cs' (g := g) hck
      exact va_mmax hx hb hl.1.symm hown (hts _ ml.1) (hts _ ml.2.1) (hts _ ml.2.2.1) (hts _ ml.2.2.2) (Nat.le_trans hR.1 hfr) (by have := hR.2; have := hlo; omega) (by have h9 : List.length r.2 - n0 ≤ R.cells := hRc; have := hm.1; omega) (by have h9 : ex_sl r.2 - s0 ≤ R.slots := hRs; have := hm.2; omega) d (hw ls H locs hl hp)
  · cases h1
theorem sd_mmin {index : Nat} (ml : MM P.2.2.1 index Lib.Math.min.name Lib.Math.min.code 2) (hR : 1 ≤ P.2.2.2.2.2.1 ∧ 21 ≤ P.2.2.2.2.2.2.1) (d : decode P.1 pc = .ok (.invokestatic index, 3)) (h : Sd P ev (pc + 3) K) : Sd P ev pc (o_m2 (fun x y => if y < x then y else x) K) := by
  intro L st M r h1
  unfold o_m2 at h1
  split at h1
  · rename_i y x r0
    · obtain ⟨hck0, h1⟩ := gd_sp h1
      have hck := of_decide_eq_true hck0
      obtain ⟨hm, hw⟩ := h _ _ _ _ h1
      refine ⟨hm, fun X F h2 => ?_⟩
      obtain ⟨g, p, l, e, R, s, m, args, below, meth, c, rr, n0, s0⟩ := X
      have hw := hw _ F h2
      obtain ⟨hOk, hW0, hz, hq, hx, hb, hml, hown, hts, hr, hlk, hnm, hK, hfr, hlo, hRc, hRs, hhyp⟩ := F
      have h3 : (ev r.1, r.2) = rr := h2
      subst h3
      intro ls H locs hl hp
      have h8 := ex_cs' (g := g) hck
      exact va_mmin hx hb hl.1.symm hown (hts _ ml.1) (hts _ ml.2.1) (hts _ ml.2.2.1) (hts _ ml.2.2.2) (Nat.le_trans hR.1 hfr) (by have := hR.2; have := hlo; omega) (by have h9 : List.length r.2 - n0 ≤ R.cells := hRc; have := hm.1; omega) (by have h9 : ex_sl r.2 - s0 ≤ R.slots := hRs; have := hm.2; omega) d (hw ls H locs hl hp)
  · cases h1
def CP (own : String) (index : Nat) : Prop := Cond.methodLink own index arraycopyName ∈ ex_tb ∧ Cond.native arraycopyName ∈ ex_tb ∧ Cond.static arraycopyName ∈ ex_tb ∧ Cond.initialized "java/lang/System" ∈ ex_tb
theorem sd_cpy {index : Nat} (ml : CP P.2.2.1 index) (hR : 1 ≤ P.2.2.2.2.2.1 ∧ 8 + (nativeFrameWords "java/lang/System" "arraycopy" 5 + 11) ≤ P.2.2.2.2.2.2.1) (d : decode P.1 pc = .ok (.invokestatic index, 3)) (h : Sd P ev (pc + 3) K) : Sd P ev pc (o_cpy K) := by
  intro L st M r h1
  unfold o_cpy at h1
  split at h1
  · rename_i n dp a1 sp a0 r0
    · obtain ⟨hck0, h1⟩ := gd_sp h1
      have hck := of_decide_eq_true hck0
      obtain ⟨M', hI, h1⟩ := Option.bind_eq_some_iff.mp h1
      obtain ⟨hm, hw⟩ := h _ _ _ _ h1
      obtain ⟨n0', f0, n1, f1, hM0, hM1, g1, g2, g3, g4, g5, rfl⟩ := h_C_sp hI
      refine ⟨ex_set_m hM1 (by rfl) hm, fun X F h2 => ?_⟩
      obtain ⟨g, p, l, e, R, s, m, args, below, meth, c, rr, n0, s0⟩ := X
      have hw := hw _ F h2
      obtain ⟨hOk, hW0, hz, hq, hx, hb, hml, hown, hts, hr, hlk, hnm, hK, hfr, hlo, hRc, hRs, hhyp⟩ := F
      intro ls H locs hl hp
      have h8 := ex_cs' (g := g) hck
      unfold Wx at hw
      rw [List.length_set, ex_sl_set hM1 (by rfl)] at hw
      exact va_copyi (ty := .int) hx hb hl.1.symm hown (hts _ ml.1) (hts _ ml.2.1) (hts _ ml.2.2.1) (hts _ ml.2.2.2) hK hp.2.1 (ex_cw_D g M) hp.2.2.1 a0 a1 0 0 (hp.get hM0) (hp.get hM1) rfl rfl rfl g1 g2 g3 g4 g5 (fun _ _ => rfl) (Nat.le_trans hR.1 hfr) (by have := hR.2; have := hlo; omega) d (fun H1 locs1 hP1 _ hS1 => hw ls H1 locs1 hl (hp.put hM1 rfl hP1 hS1))
  · cases h1
end RM
