section RE
variable {ρ : Type} {ev : ρ → Option Value} {P : Px} {pc : Nat} {K K2 : Kt ρ}
theorem sd_ldcw {index : Nat} {v : Int32} (hc : Cond.constant P.2.2.1 index v ∈ ex_tb) (d : decode P.1 pc = .ok (.ldc_w index, 3)) (h : Sd P ev (pc + 3) K) : Sd P ev pc (o_psh (.int v) K) := by
  intro L st M r h1
  obtain ⟨hm, hw⟩ := h _ _ _ _ h1
  exact ⟨hm, fun X F h2 => by
    obtain ⟨g, p, l, e, R, s, m, args, below, meth, c, rr, n0, s0⟩ := X
    have hw := hw _ F h2
    obtain ⟨hOk, hW0, hz, hq, hx, hb, hml, hown, hts, hr, hlk, hnm, hK, hfr, hlo, hRc, hRs, hhyp⟩ := F
    exact fun ls H locs hl hp => lv_ldcw hx hb hown (hts _ hc) d (hw ls H locs hl hp)⟩
def SwL (P : Px) (ev : ρ → Option Value) (pc : Nat) : Int → List Int → List (Int32 × Kt ρ) → Prop
  | _, [], [] => True
  | lo, off :: os, K :: Ks => (K.1.toInt = lo ∧ ∃ tgt : Nat, (pc : Int) + off = (tgt : Int) ∧ Sd P ev tgt K.2) ∧ SwL P ev pc (lo + 1) os Ks
  | _, _, _ => False
theorem SwL.len {lo : Int} {os : List Int} {Ks : List (Int32 × Kt ρ)} (h : SwL P ev pc lo os Ks) : os.length = Ks.length := by
  induction os generalizing Ks lo with
  | nil => cases Ks with
    | nil => rfl
    | cons a b => exact h.elim
  | cons o os ih => cases Ks with
    | nil => exact h.elim
    | cons a b => rw [List.length_cons, List.length_cons, ih h.2]
/-- where x comes to: one of the keys, at its place in the table; or none of them -/
theorem SwL.sp {lo : Int} {os : List Int} {Ks : List (Int32 × Kt ρ)} (h : SwL P ev pc lo os Ks) {x : Int32} {L : Lo} {r : List Value} {M : Hx} {Kd : Kt ρ} {w : ρ × Hx} (hs : swg x (Ks.map fun q => (q.1, q.2 L r M)) (Kd L r M) = some w) : (∃ (i : Nat) (K : Kt ρ) (off : Int) (tgt : Nat), x.toInt = lo + i ∧ os[i]? = some off ∧ (pc : Int) + off = (tgt : Int) ∧ Sd P ev tgt K ∧ K L r M = some w) ∨ ((∀ i : Nat, i < Ks.length → x.toInt ≠ lo + i) ∧ Kd L r M = some w) := by
  induction os generalizing Ks lo with
  | nil => cases Ks with
    | nil => exact Or.inr ⟨fun i hi => absurd hi (Nat.not_lt_zero i), hs⟩
    | cons a b => exact h.elim
  | cons o os ih => cases Ks with
    | nil => exact h.elim
    | cons a b =>
      obtain ⟨⟨hk, tgt, ht, hS⟩, hr⟩ := h
      rw [List.map_cons] at hs
      unfold swg at hs
      split at hs
      · rename_i hx
        exact Or.inl ⟨0, a.2, o, tgt, by rw [hx, hk]; simp, rfl, ht, hS, hs⟩
      · rename_i hx
        rcases ih hr hs with ⟨i, K, off, tg, h1, h2, h3⟩ | ⟨h1, h2⟩
        · exact Or.inl ⟨i + 1, K, off, tg, by rw [h1]; omega, h2, h3⟩
        · refine Or.inr ⟨fun i hi hxi => ?_, h2⟩
          cases i with
          | zero => exact hx (Int32.toInt_inj.mp (by rw [hxi, hk]; simp))
          | succ i => exact h1 i (Nat.lt_of_succ_lt_succ hi) (by rw [hxi]; omega)
theorem sd_tsw {dflt lo hi : Int} {offs : Array Int} {len td : Nat} {Ks : List (Int32 × Kt ρ)} {Kd : Kt ρ} (d : decode P.1 pc = .ok (.tableswitch dflt lo hi offs, len)) (hd : (pc : Int) + dflt = (td : Int)) (hn : hi + 1 = lo + Ks.length) (h0 : Sd P ev td Kd) (h : SwL P ev pc lo offs.toList Ks) : Sd P ev pc (o_sw Ks Kd) := by
  intro L st M r h1
  unfold o_sw at h1
  split at h1
  · rename_i x r0
    rcases h.sp h1 with ⟨i, K, off, tgt, hxi, ho, ht, hS, h1⟩ | ⟨hout, h1⟩
    · obtain ⟨hm, hw⟩ := hS _ _ _ _ h1
      have hl := h.len
      have hil : i < offs.toList.length := (List.getElem?_eq_some_iff.mp ho).1
      exact ⟨hm, fun X F h2 => by
        obtain ⟨g, p, l, e, R, s, m, args, below, meth, c, rr, n0, s0⟩ := X
        have hw := hw _ F h2
        obtain ⟨hOk, hW0, hz, hq, hx, hb, hml, hown, hts, hr, hlk, hnm, hK, hfr, hlo, hRc, hRs, hhyp⟩ := F
        exact fun ls H locs hl hp => lv_tableIn hx hb d (by omega) (by omega) (by rw [← Array.getElem?_toList, show (x.toInt - lo).toNat = i by omega]; exact ho) ht (hw ls H locs hl hp)⟩
    · obtain ⟨hm, hw⟩ := h0 _ _ _ _ h1
      have hc : x.toInt < lo ∨ hi < x.toInt := by
        by_cases h3 : x.toInt < lo
        · exact Or.inl h3
        · by_cases h4 : hi < x.toInt
          · exact Or.inr h4
          · exact absurd (show x.toInt = lo + ((x.toInt - lo).toNat : Int) by omega) (hout _ (by omega))
      exact ⟨hm, fun X F h2 => by
        obtain ⟨g, p, l, e, R, s, m, args, below, meth, c, rr, n0, s0⟩ := X
        have hw := hw _ F h2
        obtain ⟨hOk, hW0, hz, hq, hx, hb, hml, hown, hts, hr, hlk, hnm, hK, hfr, hlo, hRc, hRs, hhyp⟩ := F
        exact fun ls H locs hl hp => lv_tableOut hx hb d hc hd (hw ls H locs hl hp)⟩
  · cases h1
theorem ex_push_m {M : Hx} {e : hE} {n s : Nat} (hm : (M ++ [e]).length ≤ n ∧ ex_sl (M ++ [e]) ≤ s) : M.length + 1 ≤ n ∧ ex_sl M + ex_sz e ≤ s := by
  rw [ex_sl_push] at hm
  simpa using hm
theorem ex_Hp.push {g : Gx} {s : State} {n0 s0 : Nat} {M : Hx} {H H1 : Heap} {locs : List Loc} (hp : ex_Hp g s n0 s0 M H locs) (hM : M.length < 1000) (hs : H.size = ex_z g + M.length) {e : hE} (z1 : H1.size = ex_z g + M.length + 1) (o1 : ∀ q : Nat, q < ex_z g + M.length → H1[q]? = H[q]?) (he : va_at g.2.2.2 vwCl (ex_z g + M.length, ex_ce g e) H1) : ex_Hp g s n0 s0 (M ++ [e]) H1 locs := by
  have hk : ∀ (k : Nat) (x : Nat × va_E), (ex_cw g M)[k]? = some x → H1[x.1]? = H[x.1]? := fun k x hx => o1 x.1 (by rw [← hs]; exact (hp.2.1 k x hx).lt)
  refine ⟨by simp; omega, ?_, ⟨by have := hp.2.2.1.1; omega, fun q h1 h2 => (o1 q (by have := hp.2.2.1.1; omega)).trans (hp.2.2.1.2.1 q h1 h2), hp.2.2.1.2.2⟩, by have := hp.2.2.2.1; simp; omega, by rw [ex_sl_push]; have := hp.2.2.2.2; omega⟩
  rw [ex_cw_push]
  refine (hp.2.1.kept hk).app (fun k x hx => ?_)
  have hz : k < 1 := (List.getElem?_eq_some_iff.mp hx).1
  rw [show k = 0 by omega] at hx
  cases hx
  exact he
theorem sd_new {ci index : Nat} {C : String} {T : u_T} {N : Nat} {fs : List Value} (ty : Nat → FieldType) (hc : vwCl[ci]? = some (C, T, N)) (hin : ∀ w ∈ u_ws C T N, w ∈ ex_tb) (hty : ∀ k, k < N → parseFieldDescriptor (T k).2.2.1 = some (ty k)) (hw3 : Cond.classLink P.2.2.1 index C ∈ ex_tb ∧ Cond.instantiable C N ∈ ex_tb ∧ Cond.initialized C ∈ ex_tb) (hfs : ∀ j, j < N → defaultValue (ty j) = vp_V fs j) (hfl : fs.length = N) (hfc : ∀ g : Gx, fs.map (ex_cv g) = fs) (d : decode P.1 pc = .ok (.new index, 3)) (h : Sd P ev (pc + 3) K) : Sd P ev pc (o_new ci fs K) := by
  intro L st M r h1
  unfold o_new at h1
  split at h1
  · rename_i hM
    obtain ⟨hm, hw⟩ := h _ _ _ _ h1
    have hm2 := ex_push_m hm
    have e9 : ex_sz (.inr (ci, fs)) = N := hfl
    rw [e9] at hm2
    refine ⟨⟨by omega, by omega⟩, fun X F h2 => ?_⟩
    obtain ⟨g, p, l, e, R, s, m, args, below, meth, c, rr, n0, s0⟩ := X
    have hw := hw _ F h2
    obtain ⟨hOk, hW0, hz, hq, hx, hb, hml, hown, hts, hr, hlk, hnm, hK, hfr, hlo, hRc, hRs, hhyp⟩ := F
    have h3 : (ev r.1, r.2) = rr := h2
    subst h3
    intro ls H locs hl hp T1 hT XX
    subst hT
    have hsz := hp.size hz XX
    have hn0 := hp.2.2.2.1
    have hs0 := hp.2.2.2.2
    have hKn := hK.1 ci _ hc
    have hcc : (M.length - n0) + 1 ≤ R.cells := by have h9 : List.length r.2 - n0 ≤ R.cells := hRc; omega
    have hss : (ex_sl M - s0) + N ≤ R.slots := by have h9 : ex_sl r.2 - s0 ≤ R.slots := hRs; omega
    suffices hWW : W p l e R s m args below meth c T1.heap locs (M.length - n0) (ex_sl M - s0) (MQ below (ex_Q g (ev r.1, r.2)) args s (r.2.length - n0) (ex_sl r.2 - s0) (ex_A g)) (F0 m pc ls (List.map (ex_cv g) st)) from hWW T1 rfl XX
    refine W.newcK hx hb hown (hts _ hw3.1) (hts _ hw3.2.1) (hts _ hw3.2.2) rfl d hcc hss hKn.2.1 hsz (fun H1 kC hkC e1 z1 o1 => ?_)
    have h6 := hw ls H1 locs hl (hp.push hM hsz z1 o1 (by
      show ∃ r : vw_C, vwCl[ci]? = some r ∧ t_OB (ex_z g + M.length) (g.2.2.2.1 ci) r.2.2 (g.2.2.2.2 ci) H1 (vp_V (fs.map (ex_cv g)))
      rw [hfc]
      exact ⟨_, hc, (u_born ty hts hin hKn hkC e1 hty).to hfs⟩))
    rw [List.map_cons, show ex_cv g (.ref M.length) = .ref (ex_z g + M.length) from congrArg Value.ref (ex_am_lo hM)] at h6
    refine W.cs ?_ ?_ h6
    · rw [List.length_append]; show M.length - n0 + 1 = M.length + 1 - n0; omega
    · rw [ex_sl_push, e9]; omega
  · cases h1
theorem sd_nwI {t : Nat} {aty : ArrayType} {tn : FieldType} (hty : newarray.typeOf aty = tn) (hd0 : defaultValue tn = .int 0) (htt : ∀ g : Gx, (ex_ty g)[t]? = some (g.2.2.1 t, tn)) (hra : ∀ (U : State) (cA : ClassId), va_RA U cA tn → U.vm.findClass ("[" ++ tn.toString) = some cA) (hby : ∀ n : Nat, n ≤ 100000 → n * componentBytes tn ≤ 536870912) (hw1 : Cond.arrayClass tn ∈ ex_tb) (d : decode P.1 pc = .ok (.newarray aty, 2)) (h : Sd P ev (pc + 2) K) : Sd P ev pc (o_nwI t K) := by
  intro L st M r h1
  unfold o_nwI at h1
  split at h1
  · rename_i n r0
    split at h1
    · rename_i hck
      obtain ⟨hn, hn5, hM⟩ := hck
      subst hty
      obtain ⟨hm, hw⟩ := h _ _ _ _ h1
      have hm2 := ex_push_m hm
      have e9 : ex_sz (.inl (t, n.toNatClampNeg, .inl (fun _ => 0))) = n.toNatClampNeg := rfl
      rw [e9] at hm2
      refine ⟨⟨by omega, by omega⟩, fun X F h2 => ?_⟩
      obtain ⟨g, p, l, e, R, s, m, args, below, meth, c, rr, n0, s0⟩ := X
      have hw := hw _ F h2
      obtain ⟨hOk, hW0, hz, hq, hx, hb, hml, hown, hts, hr, hlk, hnm, hK, hfr, hlo, hRc, hRs, hhyp⟩ := F
      have h3 : (ev r.1, r.2) = rr := h2
      subst h3
      intro ls H locs hl hp T1 hT XX
      subst hT
      have hsz := hp.size hz XX
      have hn0 := hp.2.2.2.1
      have hs0 := hp.2.2.2.2
      have hcc : (M.length - n0) + 1 ≤ R.cells := by have h9 : List.length r.2 - n0 ≤ R.cells := hRc; omega
      have hss : (ex_sl M - s0) + n.toNatClampNeg ≤ R.slots := by have h9 : ex_sl r.2 - s0 ≤ R.slots := hRs; omega
      suffices hWW : W p l e R s m args below meth c T1.heap locs (M.length - n0) (ex_sl M - s0) (MQ below (ex_Q g (ev r.1, r.2)) args s (r.2.length - n0) (ex_sl r.2 - s0) (ex_A g)) (F0 m pc ls (List.map (ex_cv g) (.int n :: r0))) from hWW T1 rfl XX
      refine va_newaK hx hb (hts _ hw1) rfl d rfl hn rfl (hby _ hn5) hcc hss hsz (fun H1 cA e1 z1 o1 hAr hNm => ?_)
      have hcA : cA = g.2.2.1 t := Option.some.inj (hNm.symm.trans (hra s _ (hK.2 t _ (htt g)).2))
      subst hcA
      have h6 := hw ls H1 locs hl (hp.push hM hsz z1 o1 (by
        show H1[ex_z g + M.length]? = some (vp_cell (g.2.2.1 t) (n.toNatClampNeg, .inl (fun _ => 0)))
        rw [vp_cell_i, e1, hd0]))
      rw [List.map_cons, show ex_cv g (.ref M.length) = .ref (ex_z g + M.length) from congrArg Value.ref (ex_am_lo hM)] at h6
      refine W.cs ?_ ?_ h6
      · rw [List.length_append]; show M.length - n0 + 1 = M.length + 1 - n0; omega
      · rw [ex_sl_push, e9]; omega
    · cases h1
  · cases h1
theorem sd_nwR {t index : Nat} {C : String} (htt : ∀ g : Gx, (ex_ty g)[t]? = some (g.2.2.1 t, .object C)) (hw1 : Cond.classLink P.2.2.1 index C ∈ ex_tb) (hao : Cond.arrayOver (.object C) ∈ lw_tbl) (d : decode P.1 pc = .ok (.anewarray index, 3)) (h : Sd P ev (pc + 3) K) : Sd P ev pc (o_nwR t K) := by
  intro L st M r h1
  unfold o_nwR at h1
  split at h1
  · rename_i n r0
    split at h1
    · rename_i hck
      obtain ⟨hn, hn5, hM⟩ := hck
      obtain ⟨hm, hw⟩ := h _ _ _ _ h1
      have hm2 := ex_push_m hm
      have e9 : ex_sz (.inl (t, n.toNatClampNeg, .inr (fun _ => none))) = n.toNatClampNeg := rfl
      rw [e9] at hm2
      refine ⟨⟨by omega, by omega⟩, fun X F h2 => ?_⟩
      obtain ⟨g, p, l, e, R, s, m, args, below, meth, c, rr, n0, s0⟩ := X
      have hw := hw _ F h2
      obtain ⟨hOk, hW0, hz, hq, hx, hb, hml, hown, hts, hr, hlk, hnm, hK, hfr, hlo, hRc, hRs, hhyp⟩ := F
      have h3 : (ev r.1, r.2) = rr := h2
      subst h3
      intro ls H locs hl hp T1 hT XX
      subst hT
      have hsz := hp.size hz XX
      have hn0 := hp.2.2.2.1
      have hs0 := hp.2.2.2.2
      have hcc : (M.length - n0) + 1 ≤ R.cells := by have h9 : List.length r.2 - n0 ≤ R.cells := hRc; omega
      have hss : (ex_sl M - s0) + n.toNatClampNeg ≤ R.slots := by have h9 : ex_sl r.2 - s0 ≤ R.slots := hRs; omega
      have hao2 : va_AO C s := va_AO.moved hW0.alike (va_AO.of (hOk.1.choose_spec.1 _ hao))
      suffices hWW : W p l e R s m args below meth c T1.heap locs (M.length - n0) (ex_sl M - s0) (MQ below (ex_Q g (ev r.1, r.2)) args s (r.2.length - n0) (ex_sl r.2 - s0) (ex_A g)) (F0 m pc ls (List.map (ex_cv g) (.int n :: r0))) from hWW T1 rfl XX
      refine W.anew hx hb hown (hts _ hw1) (va_AO.use hao2) rfl d rfl hn (by omega) hcc hss (fun cA kA comp f1 f2 f3 f4 => ?_)
      obtain ⟨kB, cB, g1, g2, g3, g4⟩ : ∃ (kA : Class) (comp : ClassId), s.vm.classes[g.2.2.1 t]? = some kA ∧ kA.kind = .array comp (.object C) ∧ s.vm.findClass C = some comp ∧ s.vm.findClass ("[" ++ (FieldType.object C).toString) = some (g.2.2.1 t) := (hK.2 t _ (htt g)).2
      have hcA : cA = g.2.2.1 t := Option.some.inj (f1.symm.trans g4)
      subst hcA
      have h6 := hw ls (T1.heap.push { cls := g.2.2.1 t, slots := Array.replicate n.toNatClampNeg .null, vm := .none }) locs hl (hp.push hM hsz (by rw [Array.size_push]; omega) (fun q hq => by rw [Array.getElem?_push, if_neg (by omega)]) (by
        show (T1.heap.push _)[ex_z g + M.length]? = some (vp_cell (g.2.2.1 t) (n.toNatClampNeg, .inr (.inr (.inr (.inr (fun _ => none))))))
        rw [vp_cell_q, ← hsz, Array.getElem?_push, if_pos rfl, ← arrV_new]
        rfl))
      rw [List.map_cons, show ex_cv g (.ref M.length) = .ref (ex_z g + M.length) from congrArg Value.ref (ex_am_lo hM), ← hsz] at h6
      refine W.cs ?_ ?_ h6
      · rw [List.length_append]; show M.length - n0 + 1 = M.length + 1 - n0; omega
      · rw [ex_sl_push, e9]; omega
    · cases h1
  · cases h1
end RE
/-- a method's locals at its entry -/
def ex_ent : List Value → Lo
  | [] => []
  | .long x :: vs => some (.long x) :: none :: ex_ent vs
  | .double x :: vs => some (.double x) :: none :: ex_ent vs
  | v :: vs => some v :: ex_ent vs
def ex_en (n : Nat) (as : List Value) : Lo := ex_ent as ++ List.replicate (n - (ex_ent as).length) none
def mk_f {ρ : Type} (n : Nat) (K : Kt ρ) : Mt ρ := fun as M => gd (decide ((ex_ent as).length ≤ n)) (K (ex_en n as) [] M)
theorem ex_ent_len (g : Gx) (as : List Value) : (lg_sl (as.map (ex_cv g))).length = (ex_ent as).length := by
  induction as with
  | nil => rfl
  | cons v t ih =>
    unfold lg_sl at ih ⊢
    rw [List.map_cons, List.flatMap_cons, List.length_append, ih]
    have e9 : ∀ k, (ex_cv g (.retAddr k)).category = 1 := fun k => by unfold ex_cv; dsimp only; split <;> rfl
    cases v <;> first | (simp [ex_ent, ex_cv, Value.category]; omega) | (simp [ex_ent, e9]; omega)
theorem ex_ent_at (g : Gx) : ∀ (as : List Value) (j i : Nat) (v : Value), (ex_ent as)[i]? = some (some v) → (j + i, ex_cv g v) ∈ lv_args j (as.map (ex_cv g))
  | [], j, i, v, h => by simp [ex_ent] at h
  | w :: t, j, i, v, h => by
    have two : ∀ (w : Value), (ex_cv g w).category = 2 → (some w :: none :: ex_ent t)[i]? = some (some v) → (j + i, ex_cv g v) ∈ lv_args j ((w :: t).map (ex_cv g)) := by
      intro w hw h
      rw [List.map_cons]
      unfold lv_args
      rw [if_pos hw]
      match i, h with
      | 0, h => simp at h; subst h; exact List.mem_cons_self
      | 1, h => simp at h
      | i + 2, h =>
        have h' : (ex_ent t)[i]? = some (some v) := by simpa using h
        have := ex_ent_at g t (j + 2) i v h'
        rw [show j + (i + 2) = j + 2 + i by omega]
        exact List.mem_cons_of_mem _ this
    have one : ∀ (w : Value), ¬ (ex_cv g w).category = 2 → (some w :: ex_ent t)[i]? = some (some v) → (j + i, ex_cv g v) ∈ lv_args j ((w :: t).map (ex_cv g)) := by
      intro w hw h
      rw [List.map_cons]
      unfold lv_args
      rw [if_neg hw]
      match i, h with
      | 0, h => simp at h; subst h; exact List.mem_cons_self
      | i + 1, h =>
        have h' : (ex_ent t)[i]? = some (some v) := by simpa using h
        have := ex_ent_at g t (j + 1) i v h'
        rw [show j + (i + 1) = j + 1 + i by omega]
        exact List.mem_cons_of_mem _ this
    cases w with
    | long x => exact two (.long x) rfl h
    | double x => exact two (.double x) rfl h
    | int x => exact one (.int x) (by simp [ex_cv, Value.category]) h
    | float x => exact one (.float x) (by simp [ex_cv, Value.category]) h
    | null => exact one .null (by simp [ex_cv, Value.category]) h
    | ref x => exact one (.ref x) (by simp [ex_cv, Value.category]) h
    | retAddr x => exact one (.retAddr x) (by unfold ex_cv; dsimp only; split <;> simp [Value.category]) h
theorem ct_of {ρ : Type} {ev : ρ → Option Value} {y : MethodName} {cc : ByteArray} {nL : Nat} {ret : Option FieldType} {fr lo : Nat} {K : Kt ρ} (hy : plainName y.cls = true) (hS : Sd (cc, nL, y.cls, y.name, ret, fr, lo, fun _ => True) ev 0 K) : Ct ev y cc nL ret fr lo (mk_f nL K) := by
  refine ⟨fun as M r hf => ?_, fun l g as M r hOk hf => ?_⟩
  · exact (hS _ _ _ _ (gd_sp hf).2).1
  · obtain ⟨hlen0, hf⟩ := gd_sp hf
    have hlen := of_decide_eq_true hlen0
    · refine Met.ofW (cc := cc) (maxL := nL) (ret := ret) hy rfl ?_
      intro p e s m args below meth c s₁ B hml hv
      obtain ⟨rfl, hsz, hM, hP, hW0, hq⟩ := hv
      have hts := atoms_spec (ws := Cond.code y cc nL ret :: ex_tb) B.pre
      have hown : s.vm.findClass y.cls = some m.cls := findClass_of_methodNamed B.named
      have hnm : meth.name = y.name := (name_of_methodNamed B.named B.method).1
      have hF : Fx (cc, nL, y.cls, y.name, ret, fr, lo, fun _ => True) (g, p, l, e, (headSpec (Cond.code y cc nL ret :: ex_tb) { frames := fr, cells := r.2.length - M.length, slots := ex_sl r.2 - ex_sl M, locals := lo }).room, s, m, (as.map (ex_cv g)).toArray, below, meth, c, (ev r.1, r.2), M.length, ex_sl M) := ⟨hOk, hW0, hsz, hq, B.exec, B.bytes, hml, hown, fun w hw => hts w (List.mem_cons_of_mem _ hw), B.returns, B.notSynchronized, hnm, va_K.moved hW0.alike hOk.2.1, Nat.le_refl _, Nat.le_refl _, Nat.le_refl _, Nat.le_refl _, trivial⟩
      have hw := (hS _ _ _ _ hf).2 _ hF rfl
      rw [lg_entry_eq]
      have hl := lv_entry (as.map (ex_cv g)) (n := nL) (by rw [ex_ent_len]; exact hlen)
      have h6 := hw _ s.heap [] ⟨hl.1.trans hml.symm, hl.2.1, fun q hq => hl.2.2 q (by
        obtain ⟨v, h1, h2⟩ := ex_pr_mem.mp hq
        have h3 : (ex_ent as)[q.1]? = some (some v) := by
          unfold ex_en at h1
          by_cases hlt : q.1 < (ex_ent as).length
          · rw [List.getElem?_append_left hlt] at h1; exact h1
          · rw [List.getElem?_append_right (by omega), List.getElem?_replicate] at h1
            split at h1 <;> cases h1
        have h4 := ex_ent_at g as 0 q.1 v h3
        rw [Nat.zero_add, ← h2] at h4
        exact h4)⟩ ⟨hM, hP, va_S.rf, Nat.le_refl _, Nat.le_refl _⟩
      rw [Nat.sub_self, Nat.sub_self] at h6
      exact h6
