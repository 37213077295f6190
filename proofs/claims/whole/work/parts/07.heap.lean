theorem h_I_sp {M : Hx} {c a k : Nat} {x : Int32} (h : h_I M c a k = some x) : ∃ fs, M[a]? = some (.inr (c, fs)) ∧ fs[k]? = some (.int x) := by
  unfold h_I at h
  split at h
  · rename_i d fs hd
    split at h
    · rename_i hc
      split at h
      · rename_i y hy
        cases h
        exact ⟨fs, by rw [hd, hc], hy⟩
      · cases h
    · cases h
  · cases h
theorem h_R_sp {M : Hx} {c a k x : Nat} (h : h_R M c a k = some x) : ∃ fs, M[a]? = some (.inr (c, fs)) ∧ fs[k]? = some (.ref x) := by
  unfold h_R at h
  split at h
  · rename_i d fs hd
    split at h
    · rename_i hc
      split at h
      · rename_i y hy
        cases h
        exact ⟨fs, by rw [hd, hc], hy⟩
      · cases h
    · cases h
  · cases h
theorem h_P_sp {M M' : Hx} {c a k : Nat} {v : Value} (h : h_P M c a k v = some M') : ∃ fs, M[a]? = some (.inr (c, fs)) ∧ k < fs.length ∧ M' = M.set a (.inr (c, fs.set k v)) := by
  unfold h_P at h
  split at h
  · rename_i d fs hd
    split at h
    · rename_i hc
      cases h
      exact ⟨fs, by rw [hd, hc.1], hc.2, by rw [hc.1]⟩
    · cases h
  · cases h
theorem h_A_sp {M : Hx} {t a : Nat} {i x : Int32} (h : h_A M t a i = some x) : ∃ n f, M[a]? = some (.inl (t, n, .inl f)) ∧ vp_in i n ∧ x = f i.toNatClampNeg := by
  unfold h_A at h
  split at h
  · rename_i u n f hd
    split at h
    · rename_i hc
      cases h
      exact ⟨n, f, by rw [hd, hc.1], fun q => q.elim hc.2.1 (Nat.not_le.mpr hc.2.2), rfl⟩
    · cases h
  · cases h
theorem h_AR_sp {M : Hx} {t a x : Nat} {i : Int32} (h : h_AR M t a i = some x) : ∃ n f, M[a]? = some (.inl (t, n, .inr f)) ∧ vp_in i n ∧ f i.toNatClampNeg = some x := by
  unfold h_AR at h
  split at h
  · rename_i u n f hd
    split at h
    · rename_i hc
      exact ⟨n, f, by rw [hd, hc.1], fun q => q.elim hc.2.1 (Nat.not_le.mpr hc.2.2), h⟩
    · cases h
  · cases h
theorem h_S_sp {M M' : Hx} {t a : Nat} {i x : Int32} (h : h_S M t a i x = some M') : ∃ n f, M[a]? = some (.inl (t, n, .inl f)) ∧ vp_in i n ∧ M' = M.set a (.inl (t, n, .inl (upd f i.toNatClampNeg x))) := by
  unfold h_S at h
  split at h
  · rename_i u n f hd
    split at h
    · rename_i hc
      cases h
      exact ⟨n, f, by rw [hd, hc.1], fun q => q.elim hc.2.1 (Nat.not_le.mpr hc.2.2), by rw [hc.1]⟩
    · cases h
  · cases h
theorem h_SR_sp {M M' : Hx} {t c a b : Nat} {i : Int32} (h : h_SR M t c a i b = some M') : ∃ n f fs, M[a]? = some (.inl (t, n, .inr f)) ∧ M[b]? = some (.inr (c, fs)) ∧ vp_in i n ∧ M' = M.set a (.inl (t, n, .inr (va_up f i.toNatClampNeg (some b)))) := by
  unfold h_SR at h
  split at h
  · rename_i u n f d fs hd he
    split at h
    · rename_i hc
      cases h
      exact ⟨n, f, fs, by rw [hd, hc.1], by rw [he, hc.2.1], fun q => q.elim hc.2.2.1 (Nat.not_le.mpr hc.2.2.2), by rw [hc.1]⟩
    · cases h
  · cases h
theorem h_L_sp {M : Hx} {a : Nat} {x : Int32} (h : h_L M a = some x) : ∃ n f, M[a]? = some (.inl (0, n, .inl f)) ∧ x = Int32.ofNat n := by
  unfold h_L at h
  split at h
  · rename_i u n f hd
    split at h
    · rename_i hc
      cases h
      exact ⟨n, f, by rw [hd, hc], rfl⟩
    · cases h
  · cases h
theorem h_C_sp {M M' : Hx} {a0 a1 : Nat} {sp dp n : Int32} (h : h_C M a0 a1 sp dp n = some M') : ∃ n0 f0 n1 f1, M[a0]? = some (.inl (0, n0, .inl f0)) ∧ M[a1]? = some (.inl (0, n1, .inl f1)) ∧ ¬ sp < 0 ∧ ¬ dp < 0 ∧ ¬ n < 0 ∧ sp.toNatClampNeg + n.toNatClampNeg ≤ n0 ∧ dp.toNatClampNeg + n.toNatClampNeg ≤ n1 ∧ M' = M.set a1 (.inl (0, n1, .inl (va_cpy f0 f1 sp.toNatClampNeg dp.toNatClampNeg n.toNatClampNeg))) := by
  unfold h_C at h
  split at h
  · rename_i u0 n0 f0 u1 n1 f1 hd he
    split at h
    · rename_i hc
      cases h
      exact ⟨n0, f0, n1, f1, by rw [hd, hc.1], by rw [he, hc.2.1], hc.2.2.1, hc.2.2.2.1, hc.2.2.2.2.1, hc.2.2.2.2.2.1, hc.2.2.2.2.2.2, by rw [hc.2.1]⟩
    · cases h
  · cases h
theorem ex_set_m {M : Hx} {a : Nat} {e e' : hE} (h : M[a]? = some e) (hz : ex_sz e' = ex_sz e) {n s : Nat} (hm : (M.set a e').length ≤ n ∧ ex_sl (M.set a e') ≤ s) : M.length ≤ n ∧ ex_sl M ≤ s := by
  rw [List.length_set, ex_sl_set h hz] at hm
  exact hm
theorem ex_szp {c k : Nat} {fs : List Value} {v : Value} : ex_sz (.inr (c, fs.set k v)) = ex_sz (.inr (c, fs)) := List.length_set
section RH
variable {ρ : Type} {ev : ρ → Option Value} {P : Px} {pc : Nat} {K K2 : Kt ρ}
theorem sd_gI {ci k index : Nat} (fl : FL P.2.2.1 index ci k) (d : decode P.1 pc = .ok (.getfield index, 3)) (h : Sd P ev (pc + 3) K) : Sd P ev pc (o_gI ci k K) := by
  intro L st M r h1
  unfold o_gI at h1
  split at h1
  · rename_i a r0
    obtain ⟨x, hI, h1⟩ := Option.bind_eq_some_iff.mp h1
    obtain ⟨hm, hw⟩ := h _ _ _ _ h1
    exact ⟨hm, fun X F h2 => by
      obtain ⟨g, p, l, e, R, s, m, args, below, meth, c, rr, n0, s0⟩ := X
      have hw := hw _ F h2
      obtain ⟨hOk, hW0, hz, hq, hx, hb, hml, hown, hts, hr, hlk, hnm, hK, hfr, hlo, hRc, hRs, hhyp⟩ := F
      obtain ⟨C, T, N, hc, hin, hk, hln⟩ := fl
      obtain ⟨fs, hMa, hfk⟩ := h_I_sp hI
      exact fun ls H locs hl hp => va_get (D := g.2.2.2) (C := C) (T := T) (N := N) (v := .int x) hx hb hts hin hown hK hp.2.1 a (hp.get hMa) hc k hk (hts _ hln) (fun _ h9 => h9) (by rw [List.getElem?_map, hfk]; rfl) d (hw ls H locs hl hp)⟩
  · cases h1
theorem sd_gR {ci k index : Nat} (fl : FL P.2.2.1 index ci k) (d : decode P.1 pc = .ok (.getfield index, 3)) (h : Sd P ev (pc + 3) K) : Sd P ev pc (o_gR ci k K) := by
  intro L st M r h1
  unfold o_gR at h1
  split at h1
  · rename_i a r0
    obtain ⟨x, hI, h1⟩ := Option.bind_eq_some_iff.mp h1
    obtain ⟨hm, hw⟩ := h _ _ _ _ h1
    exact ⟨hm, fun X F h2 => by
      obtain ⟨g, p, l, e, R, s, m, args, below, meth, c, rr, n0, s0⟩ := X
      have hw := hw _ F h2
      obtain ⟨hOk, hW0, hz, hq, hx, hb, hml, hown, hts, hr, hlk, hnm, hK, hfr, hlo, hRc, hRs, hhyp⟩ := F
      obtain ⟨C, T, N, hc, hin, hk, hln⟩ := fl
      obtain ⟨fs, hMa, hfk⟩ := h_R_sp hI
      exact fun ls H locs hl hp => va_get (D := g.2.2.2) (C := C) (T := T) (N := N) (v := .ref (ex_am g x)) hx hb hts hin hown hK hp.2.1 a (hp.get hMa) hc k hk (hts _ hln) (fun _ h9 => h9) (by rw [List.getElem?_map, hfk]; rfl) d (hw ls H locs hl hp)⟩
  · cases h1
theorem ex_putf {g : Gx} {c : Nat} {fs : List Value} {k : Nat} {v : Value} : ex_ce g (.inr (c, fs.set k v)) = .inr (c, (fs.map (ex_cv g)).set k (ex_cv g v)) := by
  show Sum.inr (c, (fs.set k v).map (ex_cv g)) = _
  rw [List.map_set]
theorem sd_pI {ci k index : Nat} (fl : FP P.2.2.1 index ci k .int false) (d : decode P.1 pc = .ok (.putfield index, 3)) (h : Sd P ev (pc + 3) K) : Sd P ev pc (o_pI ci k K) := by
  intro L st M r h1
  unfold o_pI at h1
  split at h1
  · rename_i x a r0
    obtain ⟨M', hI, h1⟩ := Option.bind_eq_some_iff.mp h1
    obtain ⟨hm, hw⟩ := h _ _ _ _ h1
    obtain ⟨fs, hMa, hkf, rfl⟩ := h_P_sp hI
    exact ⟨ex_set_m hMa ex_szp hm, fun X F h2 => by
      obtain ⟨g, p, l, e, R, s, m, args, below, meth, c, rr, n0, s0⟩ := X
      have hw := hw _ F h2
      obtain ⟨hOk, hW0, hz, hq, hx, hb, hml, hown, hts, hr, hlk, hnm, hK, hfr, hlo, hRc, hRs, hhyp⟩ := F
      obtain ⟨C, T, N, ty0, hc, hin, hk, hln, hty, hnn, hfin, hpd, -⟩ := fl
      intro ls H locs hl hp
      unfold Wx at hw
      rw [List.length_set, ex_sl_set hMa ex_szp] at hw
      exact va_put (D := g.2.2.2) (C := C) (T := T) (N := N) (v := .int x) (ty := .int) hx hb hts hin ty0 hty hnn hown hK hp.2.1 (ex_cw_D g M) hp.2.2.1 a (hp.get hMa) hc k hk (hts _ hln) (fun _ h9 => h9) hfin hpd rfl rfl (by rw [List.length_map]; exact hkf) d (fun H1 locs1 hP1 _ hS1 => hw ls H1 locs1 hl (hp.put hMa ex_szp (by rw [ex_putf]; exact hP1) hS1))⟩
  · cases h1
theorem sd_pIF {ci k index : Nat} (hin2 : P.2.2.2.1 = "<init>") (fl : FP P.2.2.1 index ci k .int true) (d : decode P.1 pc = .ok (.putfield index, 3)) (h : Sd P ev (pc + 3) K) : Sd P ev pc (o_pI ci k K) := by
  intro L st M r h1
  unfold o_pI at h1
  split at h1
  · rename_i x a r0
    obtain ⟨M', hI, h1⟩ := Option.bind_eq_some_iff.mp h1
    obtain ⟨hm, hw⟩ := h _ _ _ _ h1
    obtain ⟨fs, hMa, hkf, rfl⟩ := h_P_sp hI
    exact ⟨ex_set_m hMa ex_szp hm, fun X F h2 => by
      obtain ⟨g, p, l, e, R, s, m, args, below, meth, c, rr, n0, s0⟩ := X
      have hw := hw _ F h2
      obtain ⟨hOk, hW0, hz, hq, hx, hb, hml, hown, hts, hr, hlk, hnm, hK, hfr, hlo, hRc, hRs, hhyp⟩ := F
      obtain ⟨C, T, N, ty0, hc, hin, hk, hln, hty, hnn, hfin, hpd, hdc⟩ := fl
      intro ls H locs hl hp
      unfold Wx at hw
      rw [List.length_set, ex_sl_set hMa ex_szp] at hw
      exact va_putF (D := g.2.2.2) (C := C) (T := T) (N := N) (v := .int x) (ty := .int) hx hb hts hin ty0 hty hnn hown hK hp.2.1 (ex_cw_D g M) hp.2.2.1 a (hp.get hMa) hc k hk (hts _ hln) (fun _ h9 => h9) hfin (hnm.trans hin2) (hdc rfl) hpd rfl rfl (by rw [List.length_map]; exact hkf) d (fun H1 locs1 hP1 _ hS1 => hw ls H1 locs1 hl (hp.put hMa ex_szp (by rw [ex_putf]; exact hP1) hS1))⟩
  · cases h1
theorem sd_pZ {ci k index : Nat} (fl : FP P.2.2.1 index ci k .boolean false) (d : decode P.1 pc = .ok (.putfield index, 3)) (h : Sd P ev (pc + 3) K) : Sd P ev pc (o_pZ ci k K) := by
  intro L st M r h1
  unfold o_pZ at h1
  split at h1
  · rename_i x a r0
    split at h1
    · rename_i h01
      obtain ⟨M', hI, h1⟩ := Option.bind_eq_some_iff.mp h1
      obtain ⟨hm, hw⟩ := h _ _ _ _ h1
      obtain ⟨fs, hMa, hkf, rfl⟩ := h_P_sp hI
      exact ⟨ex_set_m hMa ex_szp hm, fun X F h2 => by
        obtain ⟨g, p, l, e, R, s, m, args, below, meth, c, rr, n0, s0⟩ := X
        have hw := hw _ F h2
        obtain ⟨hOk, hW0, hz, hq, hx, hb, hml, hown, hts, hr, hlk, hnm, hK, hfr, hlo, hRc, hRs, hhyp⟩ := F
        obtain ⟨C, T, N, ty0, hc, hin, hk, hln, hty, hnn, hfin, hpd, -⟩ := fl
        intro ls H locs hl hp
        unfold Wx at hw
        rw [List.length_set, ex_sl_set hMa ex_szp] at hw
        exact va_put (D := g.2.2.2) (C := C) (T := T) (N := N) (v := .int x) (ty := .boolean) hx hb hts hin ty0 hty hnn hown hK hp.2.1 (ex_cw_D g M) hp.2.2.1 a (hp.get hMa) hc k hk (hts _ hln) (fun _ h9 => h9) hfin hpd (by rcases h01 with rfl | rfl <;> rfl) (by rcases h01 with rfl | rfl <;> rfl) (by rw [List.length_map]; exact hkf) d (fun H1 locs1 hP1 _ hS1 => hw ls H1 locs1 hl (hp.put hMa ex_szp (by rw [ex_putf]; exact hP1) hS1))⟩
    · cases h1
  · cases h1
theorem sd_pR {ci k index : Nat} {ty : FieldType} (hin2 : P.2.2.2.1 = "<init>") (hrt : (∃ n, ty = .object n) ∨ ∃ t, ty = .array t) (fl : FP P.2.2.1 index ci k ty true) (d : decode P.1 pc = .ok (.putfield index, 3)) (h : Sd P ev (pc + 3) K) : Sd P ev pc (o_pR ci k K) := by
  intro L st M r h1
  unfold o_pR at h1
  split at h1
  · rename_i x a r0
    obtain ⟨M', hI, h1⟩ := Option.bind_eq_some_iff.mp h1
    obtain ⟨hm, hw⟩ := h _ _ _ _ h1
    obtain ⟨fs, hMa, hkf, rfl⟩ := h_P_sp hI
    exact ⟨ex_set_m hMa ex_szp hm, fun X F h2 => by
      obtain ⟨g, p, l, e, R, s, m, args, below, meth, c, rr, n0, s0⟩ := X
      have hw := hw _ F h2
      obtain ⟨hOk, hW0, hz, hq, hx, hb, hml, hown, hts, hr, hlk, hnm, hK, hfr, hlo, hRc, hRs, hhyp⟩ := F
      obtain ⟨C, T, N, ty0, hc, hin, hk, hln, hty, hnn, hfin, hpd, hdc⟩ := fl
      intro ls H locs hl hp
      unfold Wx at hw
      rw [List.length_set, ex_sl_set hMa ex_szp] at hw
      exact va_putF (D := g.2.2.2) (C := C) (T := T) (N := N) (v := .ref (ex_am g x)) (ty := ty) hx hb hts hin ty0 hty hnn hown hK hp.2.1 (ex_cw_D g M) hp.2.2.1 a (hp.get hMa) hc k hk (hts _ hln) (fun _ h9 => h9) hfin (hnm.trans hin2) (hdc rfl) hpd (by rcases hrt with ⟨n, rfl⟩ | ⟨t, rfl⟩ <;> rfl) (by rcases hrt with ⟨n, rfl⟩ | ⟨t, rfl⟩ <;> rfl) (by rw [List.length_map]; exact hkf) d (fun H1 locs1 hP1 _ hS1 => hw ls H1 locs1 hl (hp.put hMa ex_szp (by rw [ex_putf]; exact hP1) hS1))⟩
  · cases h1
theorem sd_aI (d : decode P.1 pc = .ok (.iaload, 1)) (h : Sd P ev (pc + 1) K) : Sd P ev pc (o_aI K) := by
  intro L st M r h1
  unfold o_aI at h1
  split at h1
  · rename_i i a r0
    obtain ⟨x, hI, h1⟩ := Option.bind_eq_some_iff.mp h1
    obtain ⟨hm, hw⟩ := h _ _ _ _ h1
    obtain ⟨n, f, hMa, hin, rfl⟩ := h_A_sp hI
    exact ⟨hm, fun X F h2 => by
      obtain ⟨g, p, l, e, R, s, m, args, below, meth, c, rr, n0, s0⟩ := X
      have hw := hw _ F h2
      obtain ⟨hOk, hW0, hz, hq, hx, hb, hml, hown, hts, hr, hlk, hnm, hK, hfr, hlo, hRc, hRs, hhyp⟩ := F
      exact fun ls H locs hl hp => va_iald hx hb hK hp.2.1 a 0 (hp.get hMa) rfl hin d (hw ls H locs hl hp)⟩
  · cases h1
theorem sd_aZ (d : decode P.1 pc = .ok (.baload, 1)) (h : Sd P ev (pc + 1) K) : Sd P ev pc (o_aZ K) := by
  intro L st M r h1
  unfold o_aZ at h1
  split at h1
  · rename_i i a r0
    obtain ⟨x, hI, h1⟩ := Option.bind_eq_some_iff.mp h1
    obtain ⟨hm, hw⟩ := h _ _ _ _ h1
    obtain ⟨n, f, hMa, hin, rfl⟩ := h_A_sp hI
    exact ⟨hm, fun X F h2 => by
      obtain ⟨g, p, l, e, R, s, m, args, below, meth, c, rr, n0, s0⟩ := X
      have hw := hw _ F h2
      obtain ⟨hOk, hW0, hz, hq, hx, hb, hml, hown, hts, hr, hlk, hnm, hK, hfr, hlo, hRc, hRs, hhyp⟩ := F
      exact fun ls H locs hl hp => va_zald hx hb hK hp.2.1 a 1 (hp.get hMa) rfl hin d (hw ls H locs hl hp)⟩
  · cases h1
theorem sd_aR {t : Nat} {C : String} (ht : ∀ g : Gx, (ex_ty g)[t]? = some (g.2.2.1 t, .object C)) (d : decode P.1 pc = .ok (.aaload, 1)) (h : Sd P ev (pc + 1) K) : Sd P ev pc (o_aR t K) := by
  intro L st M r h1
  unfold o_aR at h1
  split at h1
  · rename_i i a r0
    obtain ⟨x, hI, h1⟩ := Option.bind_eq_some_iff.mp h1
    obtain ⟨hm, hw⟩ := h _ _ _ _ h1
    obtain ⟨n, f, hMa, hin, hfx⟩ := h_AR_sp hI
    exact ⟨hm, fun X F h2 => by
      obtain ⟨g, p, l, e, R, s, m, args, below, meth, c, rr, n0, s0⟩ := X
      have hw := hw _ F h2
      obtain ⟨hOk, hW0, hz, hq, hx, hb, hml, hown, hts, hr, hlk, hnm, hK, hfr, hlo, hRc, hRs, hhyp⟩ := F
      exact fun ls H locs hl hp => va_aldq hx hb hK hp.2.1 a t (hp.get hMa) (ht g) hin d (by rw [hfx]; exact hw ls H locs hl hp)⟩
  · cases h1
theorem sd_sI (d : decode P.1 pc = .ok (.iastore, 1)) (h : Sd P ev (pc + 1) K) : Sd P ev pc (o_sI K) := by
  intro L st M r h1
  unfold o_sI at h1
  split at h1
  · rename_i x i a r0
    obtain ⟨M', hI, h1⟩ := Option.bind_eq_some_iff.mp h1
    obtain ⟨hm, hw⟩ := h _ _ _ _ h1
    obtain ⟨n, f, hMa, hin, rfl⟩ := h_S_sp hI
    exact ⟨ex_set_m hMa (by rfl) hm, fun X F h2 => by
      obtain ⟨g, p, l, e, R, s, m, args, below, meth, c, rr, n0, s0⟩ := X
      have hw := hw _ F h2
      obtain ⟨hOk, hW0, hz, hq, hx, hb, hml, hown, hts, hr, hlk, hnm, hK, hfr, hlo, hRc, hRs, hhyp⟩ := F
      intro ls H locs hl hp
      unfold Wx at hw
      rw [List.length_set, ex_sl_set hMa (by rfl)] at hw
      exact va_iast hx hb hK hp.2.1 (ex_cw_D g M) hp.2.2.1 a 0 (hp.get hMa) rfl hin d (fun H1 locs1 hP1 _ hS1 => hw ls H1 locs1 hl (hp.put hMa rfl hP1 hS1))⟩
  · cases h1
theorem sd_sZ (d : decode P.1 pc = .ok (.bastore, 1)) (h : Sd P ev (pc + 1) K) : Sd P ev pc (o_sZ K) := by
  intro L st M r h1
  unfold o_sZ at h1
  split at h1
  · rename_i x i a r0
    split at h1
    · rename_i h01
      obtain ⟨M', hI, h1⟩ := Option.bind_eq_some_iff.mp h1
      obtain ⟨hm, hw⟩ := h _ _ _ _ h1
      obtain ⟨n, f, hMa, hin, rfl⟩ := h_S_sp hI
      exact ⟨ex_set_m hMa (by rfl) hm, fun X F h2 => by
        obtain ⟨g, p, l, e, R, s, m, args, below, meth, c, rr, n0, s0⟩ := X
        have hw := hw _ F h2
        obtain ⟨hOk, hW0, hz, hq, hx, hb, hml, hown, hts, hr, hlk, hnm, hK, hfr, hlo, hRc, hRs, hhyp⟩ := F
        intro ls H locs hl hp
        unfold Wx at hw
        rw [List.length_set, ex_sl_set hMa (by rfl)] at hw
        have hn9 : vp_nar .boolean x = x := by rcases h01 with rfl | rfl <;> rfl
        exact va_zast hx hb hK hp.2.1 (ex_cw_D g M) hp.2.2.1 a 1 (hp.get hMa) rfl hin d (fun H1 locs1 hP1 _ hS1 => hw ls H1 locs1 hl (hp.put hMa rfl (by rw [hn9] at hP1; exact hP1) hS1))⟩
    · cases h1
  · cases h1
theorem sd_sR {t ci : Nat} {C : String} {T : u_T} {N : Nat} (hc : vwCl[ci]? = some (C, T, N)) (ht : ∀ g : Gx, (ex_ty g)[t]? = some (g.2.2.1 t, .object C)) (d : decode P.1 pc = .ok (.aastore, 1)) (h : Sd P ev (pc + 1) K) : Sd P ev pc (o_sR t ci K) := by
  intro L st M r h1
  unfold o_sR at h1
  split at h1
  · rename_i b i a r0
    obtain ⟨M', hI, h1⟩ := Option.bind_eq_some_iff.mp h1
    obtain ⟨hm, hw⟩ := h _ _ _ _ h1
    obtain ⟨n, f, fs, hMa, hMb, hin, rfl⟩ := h_SR_sp hI
    exact ⟨ex_set_m hMa (by rfl) hm, fun X F h2 => by
      obtain ⟨g, p, l, e, R, s, m, args, below, meth, c, rr, n0, s0⟩ := X
      have hw := hw _ F h2
      obtain ⟨hOk, hW0, hz, hq, hx, hb, hml, hown, hts, hr, hlk, hnm, hK, hfr, hlo, hRc, hRs, hhyp⟩ := F
      intro ls H locs hl hp
      unfold Wx at hw
      rw [List.length_set, ex_sl_set hMa (by rfl)] at hw
      refine va_astq (r := (C, T, N)) hx hb hK hp.2.1 (ex_cw_D g M) hp.2.2.1 a t b ci (hp.get hMa) (ht g) (hp.get hMb) hc hin d (fun H1 locs1 hP1 _ hS1 => hw ls H1 locs1 hl (hp.put hMa rfl ?_ hS1))
      have e9 : (fun j => ((va_up f i.toNatClampNeg (some b)) j).map (ex_am g)) = va_up (fun j => (f j).map (ex_am g)) i.toNatClampNeg (some (ex_am g b)) := by
        funext j
        by_cases hj : j = i.toNatClampNeg <;> simp [va_up, hj]
      show va_P g.2.2.2 vwCl ((ex_cw g M).set a (ex_am g a, .inl (g.2.2.1 t, n, .inr (.inr (.inr (.inr (fun j => ((va_up f i.toNatClampNeg (some b)) j).map (ex_am g)))))))) H1
      rw [e9]
      exact hP1⟩
  · cases h1
theorem sd_aln (d : decode P.1 pc = .ok (.arraylength, 1)) (h : Sd P ev (pc + 1) K) : Sd P ev pc (o_aln K) := by
  intro L st M r h1
  unfold o_aln at h1
  split at h1
  · rename_i a r0
    obtain ⟨x, hI, h1⟩ := Option.bind_eq_some_iff.mp h1
    obtain ⟨hm, hw⟩ := h _ _ _ _ h1
    obtain ⟨n, f, hMa, rfl⟩ := h_L_sp hI
    exact ⟨hm, fun X F h2 => by
      obtain ⟨g, p, l, e, R, s, m, args, below, meth, c, rr, n0, s0⟩ := X
      have hw := hw _ F h2
      obtain ⟨hOk, hW0, hz, hq, hx, hb, hml, hown, hts, hr, hlk, hnm, hK, hfr, hlo, hRc, hRs, hhyp⟩ := F
      exact fun ls H locs hl hp => va_alen hx hb hK hp.2.1 a 0 (hp.get hMa) (ty := .int) rfl rfl d (hw ls H locs hl hp)⟩
  · cases h1
end RH
