theorem ex_tb_good : ∀ w ∈ ex_tb, w ∈ ex_tb ∧ ((w.onTables && w.keeps) = true ∨ ∃ ty, w = .arrayClass ty) := fun w h => ⟨h, good_of_word (List.mem_filter.mp h).2⟩
theorem ex_good {y : MethodName} {b : ByteArray} {n : Nat} {ret : Option FieldType} (h : Cond.code y b n ret ∈ ex_tb) : GoodIn ex_tb (.code y b n ret :: ex_tb) := fun w hw => by
  rcases List.mem_cons.mp hw with e | e
  · rw [e]; exact ex_tb_good _ h
  · exact ex_tb_good _ e
/-- a method's words -/
def MW (y : MethodName) (bytes : ByteArray) (maxL : Nat) (ret : Option FieldType) (n : Nat) : Prop := Cond.code y bytes maxL ret ∈ ex_tb ∧ Cond.initialized y.cls ∈ ex_tb ∧ y.cls ≠ "java/lang/invoke/MethodHandle" ∧ y.cls ≠ "java/lang/invoke/VarHandle" ∧ (parseMethodDescriptor y.desc).map (fun d => d.parameters.length) = some n
/-- a field's words, as a class' constant names it -/
def FL (own : String) (index ci k : Nat) : Prop := ∃ (C : String) (T : u_T) (N : Nat), vwCl[ci]? = some (C, T, N) ∧ (∀ w ∈ u_ws C T N, w ∈ ex_tb) ∧ k < N ∧ Cond.fieldLink own index (T k).1 (T k).2.1 (T k).2.2.1 ∈ ex_tb
def FP (own : String) (index ci k : Nat) (ty : FieldType) (fin : Bool) : Prop := ∃ (C : String) (T : u_T) (N : Nat) (ty0 : Nat → FieldType), vwCl[ci]? = some (C, T, N) ∧ (∀ w ∈ u_ws C T N, w ∈ ex_tb) ∧ k < N ∧ Cond.fieldLink own index (T k).1 (T k).2.1 (T k).2.2.1 ∈ ex_tb ∧ (∀ k, k < N → parseFieldDescriptor (T k).2.2.1 = some (ty0 k)) ∧ (∀ a, a < N → ∀ b, b < N → a ≠ b → (T a).2.1 ≠ (T b).2.1) ∧ (T k).2.2.2 = fin ∧ parseFieldDescriptor (T k).2.2.1 = some ty ∧ (fin = true → (T k).1 = own)
theorem ex_cs {r : List Value} (h : r.length ≤ 4) : (r.map fun v => v.category).sum ≤ 8 := by
  have key : ∀ r : List Value, (r.map fun v => v.category).sum ≤ 2 * r.length := by
    intro r
    induction r with
    | nil => simp
    | cons v t ih =>
      have h2 : v.category ≤ 2 := by rcases lv_cat v with q | q <;> omega
      simp only [List.map_cons, List.sum_cons, List.length_cons]
      omega
  have := key r
  omega
theorem ex_cs' {g : Gx} {r : List Value} (h : r.length ≤ 4) : ((r.map (ex_cv g)).map fun v => v.category).sum ≤ 8 := ex_cs (by rw [List.length_map]; exact h)
section CL
variable {p : Program} {l : Launch} {e : Env} {R : Room} {s : State} {m : MethodId} {args : Array Value} {below : List Frame} {meth : Method} {c : Code} {H : Heap} {locs : List Loc} {cells slots mc ms pc : Nat} {Q : State → Prop} {ls : Array Slot} {st0 rest : List Value} {a : Array Value} {g : Gx} {rr : Option Value × Hx}
theorem ex_call (hr : va_Run p l e R s m args below meth c H locs cells slots mc ms (F0 m pc ls st0) rest (ex_Q g rr a) (ex_A g)) (hS : va_S (ex_A g) s.heap H locs)
    (kk : ∀ (H1 : Heap) (locs1 : List Loc), rr.2.length ≤ 1000 → va_P g.2.2.2 vwCl (ex_cw g rr.2) H1 → va_S (ex_A g) s.heap H1 locs1 → W p l e R s m args below meth c H1 locs1 (cells + mc) (slots + ms) Q (F0 m (pc + 3) ls (rr.1.toList ++ rest))) : W p l e R s m args below meth c H locs cells slots Q (F0 m pc ls st0) := by
  intro T hT X
  obtain ⟨v, st₀, t, T', L, h0, X', hL, e1, e2, ⟨hv, -, hlen, hP, hF⟩, st⟩ := hr T hT X
  have hv' : v = rr.1 := by injection hv
  subst hv'
  have hF2 : H.size ≤ T'.heap.size ∧ ∀ q : Nat, q < H.size → ¬ ex_A g q → T'.heap[q]? = H[q]? := by
    rw [e1, ← h0]; exact hF
  obtain ⟨t2, a1, b1⟩ := kk T'.heap (locs ++ L) hlen (by rw [e1]; exact hP) ⟨Nat.le_trans hS.1 hF2.1, fun q h1 h2 => (hF2.2 q (Nat.lt_of_lt_of_le h1 hS.1) h2).trans (hS.2.1 q h1 h2), fun q hq => by
      rcases List.mem_append.mp hq with h | h
      · exact hS.2.2 q h
      · exact hL q h⟩ T' rfl X'
  exact ⟨t2, st t2 a1, b1⟩
end CL
theorem ex_wd {g : Gx} {s : State} {n0 s0 : Nat} {M : Hx} {H : Heap} {locs : List Loc} (hp : ex_Hp g s n0 s0 M H locs) (hs : H.size = ex_z g + M.length) (hW0 : g.1.WarmedH s.vm) (hz : s.heap.size = ex_z g + n0) (hq : ∀ q : Nat, q < ex_z g → s.heap[q]? = g.1.heap[q]?) {U : State} (hU : U.heap = H) (hW : s.WarmedH U.vm) : ex_Wd g M U := by
  refine ⟨by rw [hU]; exact hs, hp.1, by rw [hU]; exact hp.2.1, State.WarmedH.trans hW0 hW, fun q h => ?_⟩
  rw [hU, hp.2.2.1.2.1 q (by omega) (by show ¬ ex_z g ≤ q; omega)]
  exact hq q h
theorem ex_blind {g : Gx} {as : List Value} {M : Hx} : FrameBlind (va_Pc as (ex_Wd g M)) := fun _ _ _ _ q => q
theorem ex_stk {g : Gx} {st as : List Value} {b n : Nat} (h : (st.take n).reverse = .ref b :: as) : st.map (ex_cv g) = (as.map (ex_cv g)).reverse ++ .ref (ex_am g b) :: (st.drop n).map (ex_cv g) := by
  have e : st.take n = as.reverse ++ [.ref b] := by
    have := congrArg List.reverse h
    rw [List.reverse_reverse, List.reverse_cons] at this
    exact this
  conv => lhs; rw [← List.take_append_drop n st, e]
  simp [ex_cv]
theorem ex_stk2 {g : Gx} {st : List Value} {n : Nat} : st.map (ex_cv g) = ((st.take n).reverse.map (ex_cv g)).reverse ++ (st.drop n).map (ex_cv g) := by
  conv => lhs; rw [← List.take_append_drop n st]
  simp
section RC
variable {ρ ρ' : Type} {ev : ρ → Option Value} {ev' : ρ' → Option Value} {P : Px} {rt : Option FieldType} {pc : Nat} {K K2 : Kt ρ} {y : MethodName} {bytes : ByteArray} {maxL fr' lo' n index c : Nat} {f : Mt ρ'}
theorem sd_vc (hct : Ct ev' y bytes maxL rt fr' lo' f) (hev : ∀ (g : Gx) (x : ρ'), (ev' x).map (ex_cv g) = ev' x) {T : u_T} {N : Nat} (hcl : vwCl[c]? = some (y.cls, T, N)) (mw : MW y bytes maxL rt n) (mv : Cond.instanceMethod y ∈ ex_tb ∧ Cond.selects y.cls y y ∈ ex_tb) (ml : Cond.methodLink P.2.2.1 index y ∈ ex_tb) (hR : fr' + 1 ≤ P.2.2.2.2.2.1 ∧ 8 + (maxL + 11) + lo' ≤ P.2.2.2.2.2.2.1) (d : decode P.1 pc = .ok (.invokevirtual index, 3)) (h : Sd P ev (pc + 3) K) : Sd P ev pc (o_vc ev' c (n + 1) f K) := by
  intro L st M r h1
  unfold o_vc at h1
  split at h1
  · rename_i b as hst
    · obtain ⟨hck1, h1⟩ := gd_sp h1
      obtain ⟨hck2, h1⟩ := gd_sp h1
      obtain ⟨hck3, h1⟩ := gd_sp h1
      obtain ⟨q, hf, h1⟩ := Option.bind_eq_some_iff.mp h1
      obtain ⟨hm, hw⟩ := h _ _ _ _ h1
      have hmq := (hct.1 _ M q hf)
      refine ⟨⟨Nat.le_trans hmq.1 hm.1, Nat.le_trans hmq.2 hm.2⟩, fun X F h2 => ?_⟩
      obtain ⟨g, p, l, e, R, s, m, args, below, meth, c0, rr, n0, s0⟩ := X
      have hw := hw _ F h2
      obtain ⟨hOk, hW0, hz, hq, hx, hb, hml, hown, hts, hr, hlk, hnm, hK, hfr, hlo, hRc, hRs, hhyp⟩ := F
      have h3 : (ev r.1, r.2) = rr := h2
      subst h3
      have hM := hct.2 l g _ M q hOk hf
      intro ls H locs hl hp T1 hT XX
      subst hT
      have hsz := hp.size hz XX
      have hn0 := hp.2.2.2.1
      have hs0 := hp.2.2.2.2
      obtain ⟨fs, hMb⟩ : ∃ fs, M[b]? = some (.inr (c, fs)) := by
        have hk := hck3
        unfold h_K at hk
        split at hk
        · rename_i d fs hd
          exact ⟨fs, by rw [hd, eq_of_beq hk]⟩
        · cases hk
      rw [ex_stk (g := g) hst]
      refine ex_call (rr := (ev' q.1, q.2)) (rest := (st.drop (n + 1)).map (ex_cv g)) (va_runV (As := as.map (ex_cv g)) (b := ex_am g b) (C := y.cls) ⟨hx, hb, hml, hown, hts⟩ hM ⟨callB_of n hts (ex_good mw.1) rfl rfl rfl (hts _ mw.2.1) (hts _ ml) mw.2.2 ⟨Nat.le_trans hR.1 hfr, Nat.le_trans hR.2 hlo⟩, hts _ mv.1, hts _ mv.2⟩ ⟨ex_blind, va_recv hK hp.2.1 (ci := c) (q0 := b) hcl (hp.get hMb), fun U hU hW => ⟨rfl, ex_wd hp hsz hW0 hz hq hU hW⟩⟩ rfl (by rw [List.length_map]; exact Nat.succ.inj (of_decide_eq_true hck1)) (hl.1.trans hml) rfl (lv_room (ex_cs' (of_decide_eq_true hck2))) d ⟨by have h9 : List.length r.2 - n0 ≤ R.cells := hRc; have := hm.1; have := hmq.1; omega, by have h9 : ex_sl r.2 - s0 ≤ R.slots := hRs; have := hm.2; have := hmq.2; omega⟩) hp.2.2.1 (fun H1 locs1 h5 hP1 hS1 => ?_) T1 rfl XX
      have := hm.1; have := hmq.1; have := hm.2; have := hmq.2
      have h6 := hw ls H1 locs1 hl ⟨h5, hP1, hS1, by omega, by omega⟩
      rw [List.map_append, ← Option.toList_map, hev] at h6
      exact W.cs (by omega) (by omega) h6
  · cases h1
theorem sd_sc (hct : Ct ev' y bytes maxL rt fr' lo' f) (hev : ∀ (g : Gx) (x : ρ'), (ev' x).map (ex_cv g) = ev' x) (mw : MW y bytes maxL rt n) (mv : Cond.static y ∈ ex_tb) (ml : Cond.methodLink P.2.2.1 index y ∈ ex_tb) (hR : fr' + 1 ≤ P.2.2.2.2.2.1 ∧ 8 + (maxL + 11) + lo' ≤ P.2.2.2.2.2.2.1) (d : decode P.1 pc = .ok (.invokestatic index, 3)) (h : Sd P ev (pc + 3) K) : Sd P ev pc (o_sc ev' n f K) := by
  intro L st M r h1
  unfold o_sc at h1
  · · obtain ⟨hck1, h1⟩ := gd_sp h1
      obtain ⟨hck2, h1⟩ := gd_sp h1
      obtain ⟨q, hf, h1⟩ := Option.bind_eq_some_iff.mp h1
      obtain ⟨hm, hw⟩ := h _ _ _ _ h1
      have hmq := (hct.1 _ M q hf)
      refine ⟨⟨Nat.le_trans hmq.1 hm.1, Nat.le_trans hmq.2 hm.2⟩, fun X F h2 => ?_⟩
      obtain ⟨g, p, l, e, R, s, m, args, below, meth, c0, rr, n0, s0⟩ := X
      have hw := hw _ F h2
      obtain ⟨hOk, hW0, hz, hq, hx, hb, hml, hown, hts, hr, hlk, hnm, hK, hfr, hlo, hRc, hRs, hhyp⟩ := F
      have h3 : (ev r.1, r.2) = rr := h2
      subst h3
      have hM := hct.2 l g _ M q hOk hf
      intro ls H locs hl hp T1 hT XX
      subst hT
      have hsz := hp.size hz XX
      have hn0 := hp.2.2.2.1
      have hs0 := hp.2.2.2.2
      rw [ex_stk2 (g := g) (n := n)]
      refine ex_call (rr := (ev' q.1, q.2)) (rest := (st.drop n).map (ex_cv g)) (va_runS (As := (st.take n).reverse.map (ex_cv g)) ⟨hx, hb, hml, hown, hts⟩ hM ⟨callB_of n hts (ex_good mw.1) rfl rfl rfl (hts _ mw.2.1) (hts _ ml) mw.2.2 ⟨Nat.le_trans hR.1 hfr, Nat.le_trans hR.2 hlo⟩, hts _ mv⟩ ⟨ex_blind, fun U hU hW => ⟨rfl, ex_wd hp hsz hW0 hz hq hU hW⟩⟩ rfl (by rw [List.length_map, List.length_reverse]; exact of_decide_eq_true hck1) (hl.1.trans hml) rfl (lv_room (ex_cs' (of_decide_eq_true hck2))) d ⟨by have h9 : List.length r.2 - n0 ≤ R.cells := hRc; have := hm.1; have := hmq.1; omega, by have h9 : ex_sl r.2 - s0 ≤ R.slots := hRs; have := hm.2; have := hmq.2; omega⟩) hp.2.2.1 (fun H1 locs1 h5 hP1 hS1 => ?_) T1 rfl XX
      have := hm.1; have := hmq.1; have := hm.2; have := hmq.2
      have h6 := hw ls H1 locs1 hl ⟨h5, hP1, hS1, by omega, by omega⟩
      rw [List.map_append, ← Option.toList_map, hev] at h6
      exact W.cs (by omega) (by omega) h6
theorem sd_nc {f : Mt Unit} (hct : Ct ev_v y bytes maxL none fr' lo' f) (mw : MW y bytes maxL none n) (hyn : y.name = "<init>") (mv : Cond.instanceMethod y ∈ ex_tb) (ml : Cond.methodLink P.2.2.1 index y ∈ ex_tb) (hR : fr' + 1 ≤ P.2.2.2.2.2.1 ∧ 8 + (maxL + 11) + lo' ≤ P.2.2.2.2.2.2.1) (d : decode P.1 pc = .ok (.invokespecial index, 3)) (h : Sd P ev (pc + 3) K) : Sd P ev pc (o_nc (n + 1) f K) := by
  intro L st M r h1
  unfold o_nc at h1
  split at h1
  · rename_i b as hst
    · obtain ⟨hck1, h1⟩ := gd_sp h1
      obtain ⟨hck2, h1⟩ := gd_sp h1
      obtain ⟨q, hf, h1⟩ := Option.bind_eq_some_iff.mp h1
      obtain ⟨hm, hw⟩ := h _ _ _ _ h1
      have hmq := (hct.1 _ M q hf)
      refine ⟨⟨Nat.le_trans hmq.1 hm.1, Nat.le_trans hmq.2 hm.2⟩, fun X F h2 => ?_⟩
      obtain ⟨g, p, l, e, R, s, m, args, below, meth, c0, rr, n0, s0⟩ := X
      have hw := hw _ F h2
      obtain ⟨hOk, hW0, hz, hq, hx, hb, hml, hown, hts, hr, hlk, hnm, hK, hfr, hlo, hRc, hRs, hhyp⟩ := F
      have h3 : (ev r.1, r.2) = rr := h2
      subst h3
      have hM := hct.2 l g _ M q hOk hf
      intro ls H locs hl hp T1 hT XX
      subst hT
      have hsz := hp.size hz XX
      have hn0 := hp.2.2.2.1
      have hs0 := hp.2.2.2.2
      rw [ex_stk (g := g) hst]
      refine ex_call (rr := (ev_v q.1, q.2)) (rest := (st.drop (n + 1)).map (ex_cv g)) (va_runI (As := as.map (ex_cv g)) (b := ex_am g b) ⟨hx, hb, hml, hown, hts⟩ hM ⟨callB_of n hts (ex_good mw.1) rfl rfl rfl (hts _ mw.2.1) (hts _ ml) mw.2.2 ⟨Nat.le_trans hR.1 hfr, Nat.le_trans hR.2 hlo⟩, hyn, hts _ mv⟩ ⟨ex_blind, fun U hU hW => ⟨rfl, ex_wd hp hsz hW0 hz hq hU hW⟩⟩ rfl (by rw [List.length_map]; exact Nat.succ.inj (of_decide_eq_true hck1)) (hl.1.trans hml) rfl (lv_room (ex_cs' (of_decide_eq_true hck2))) d ⟨by have h9 : List.length r.2 - n0 ≤ R.cells := hRc; have := hm.1; have := hmq.1; omega, by have h9 : ex_sl r.2 - s0 ≤ R.slots := hRs; have := hm.2; have := hmq.2; omega⟩) hp.2.2.1 (fun H1 locs1 h5 hP1 hS1 => ?_) T1 rfl XX
      have := hm.1; have := hmq.1; have := hm.2; have := hmq.2
      have h6 := hw ls H1 locs1 hl ⟨h5, hP1, hS1, by omega, by omega⟩
      exact W.cs (by omega) (by omega) h6
  · cases h1
theorem sd_ncN {host : String} {f : Mt Unit} (hct : Ct ev_v y bytes maxL none fr' lo' f) (mw : MW y bytes maxL none n) (hyn : y.name = "<init>") (mv : Cond.instanceMethod y ∈ ex_tb) (ml : Cond.methodLinkNest P.2.2.1 index y host ∈ lw_tbl) (hR : fr' + 1 ≤ P.2.2.2.2.2.1 ∧ 8 + (maxL + 11) + lo' ≤ P.2.2.2.2.2.2.1) (d : decode P.1 pc = .ok (.invokespecial index, 3)) (h : Sd P ev (pc + 3) K) : Sd P ev pc (o_nc (n + 1) f K) := by
  intro L st M r h1
  unfold o_nc at h1
  split at h1
  · rename_i b as hst
    · obtain ⟨hck1, h1⟩ := gd_sp h1
      obtain ⟨hck2, h1⟩ := gd_sp h1
      obtain ⟨q, hf, h1⟩ := Option.bind_eq_some_iff.mp h1
      obtain ⟨hm, hw⟩ := h _ _ _ _ h1
      have hmq := (hct.1 _ M q hf)
      refine ⟨⟨Nat.le_trans hmq.1 hm.1, Nat.le_trans hmq.2 hm.2⟩, fun X F h2 => ?_⟩
      obtain ⟨g, p, l, e, R, s, m, args, below, meth, c0, rr, n0, s0⟩ := X
      have hw := hw _ F h2
      obtain ⟨hOk, hW0, hz, hq, hx, hb, hml, hown, hts, hr, hlk, hnm, hK, hfr, hlo, hRc, hRs, hhyp⟩ := F
      have h3 : (ev r.1, r.2) = rr := h2
      subst h3
      have hM := hct.2 l g _ M q hOk hf
      intro ls H locs hl hp T1 hT XX
      subst hT
      have hsz := hp.size hz XX
      have hn0 := hp.2.2.2.1
      have hs0 := hp.2.2.2.2
      rw [ex_stk (g := g) hst]
      refine ex_call (rr := (ev_v q.1, q.2)) (rest := (st.drop (n + 1)).map (ex_cv g)) (va_runIN (As := as.map (ex_cv g)) (b := ex_am g b) ⟨hx, hb, hml, hown, hts⟩ hM ⟨va_cnB n hts (ex_good mw.1) rfl rfl rfl (va_Nw.warmM hW0 (va_Nw.of rfl (hOk.1.choose_spec.1 _ ml))) (hts _ mw.2.1) mw.2.2 ⟨Nat.le_trans hR.1 hfr, Nat.le_trans hR.2 hlo⟩, hyn, hts _ mv⟩ ⟨ex_blind, fun U hU hW => ⟨rfl, ex_wd hp hsz hW0 hz hq hU hW⟩⟩ rfl (by rw [List.length_map]; exact Nat.succ.inj (of_decide_eq_true hck1)) (hl.1.trans hml) rfl (lv_room (ex_cs' (of_decide_eq_true hck2))) d ⟨by have h9 : List.length r.2 - n0 ≤ R.cells := hRc; have := hm.1; have := hmq.1; omega, by have h9 : ex_sl r.2 - s0 ≤ R.slots := hRs; have := hm.2; have := hmq.2; omega⟩) hp.2.2.1 (fun H1 locs1 h5 hP1 hS1 => ?_) T1 rfl XX
      have := hm.1; have := hmq.1; have := hm.2; have := hmq.2
      have h6 := hw ls H1 locs1 hl ⟨h5, hP1, hS1, by omega, by omega⟩
      exact W.cs (by omega) (by omega) h6
  · cases h1
end RC
