/-! the abstract machine: a heap is a list of cells; an address is a place in it (from 1000 on: a cell of the start) -/
abbrev hE : Type := (Nat × Nat × ((Nat → Int32) ⊕ (Nat → Option Nat))) ⊕ (Nat × List Value)
abbrev Hx : Type := List hE
abbrev Lo : Type := List (Option Value)
abbrev Kt (ρ : Type) : Type := Lo → List Value → Hx → Option (ρ × Hx)
abbrev Mt (ρ : Type) : Type := List Value → Hx → Option (ρ × Hx)
/-- the start's state, the addresses of its cells that are named from 1000 on, the classes of arrays, of objects -/
abbrev Gx : Type := State × (Nat → Nat) × (Nat → ClassId) × va_G
def ex_z (g : Gx) : Nat := g.1.heap.size
def ex_am (g : Gx) (k : Nat) : Nat := if k < 1000 then ex_z g + k else g.2.1 k
def ex_cv (g : Gx) : Value → Value
  | .ref k => .ref (ex_am g k)
  | .retAddr _ => if g.2.1 1021 = 0 then .null else .ref (g.2.1 1020)
  | v => v
def ex_ce (g : Gx) : hE → va_E
  | .inl (t, n, .inl f) => .inl (g.2.2.1 t, n, .inl f)
  | .inl (t, n, .inr f) => .inl (g.2.2.1 t, n, .inr (.inr (.inr (.inr (fun i => (f i).map (ex_am g))))))
  | .inr (c, fs) => .inr (c, fs.map (ex_cv g))
def ex_cw (g : Gx) (M : Hx) : va_W := M.mapIdx (fun k e => (ex_z g + k, ex_ce g e))
abbrev ex_A (g : Gx) : Nat → Prop := fun q => ex_z g ≤ q
abbrev ex_ty (g : Gx) : List (ClassId × FieldType) := [(g.2.2.1 0, .int), (g.2.2.1 1, .boolean), (g.2.2.1 2, .object RX1), (g.2.2.1 3, .object RX3)]
def ex_sz : hE → Nat
  | .inl (_, n, _) => n
  | .inr (_, fs) => fs.length
def ex_sl (M : Hx) : Nat := (M.map ex_sz).sum
/-- the words of all methods -/
def ex_tb : List Cond := lw_tbl.filter goodWord
theorem ex_cw_at (g : Gx) (M : Hx) (k : Nat) : (ex_cw g M)[k]? = (M[k]?).map (fun e => (ex_z g + k, ex_ce g e)) := by
  unfold ex_cw
  rw [List.getElem?_mapIdx]
theorem ex_cw_len (g : Gx) (M : Hx) : (ex_cw g M).length = M.length := by
  unfold ex_cw
  rw [List.length_mapIdx]
theorem ex_cw_set (g : Gx) (M : Hx) (k : Nat) (e : hE) : ex_cw g (M.set k e) = (ex_cw g M).set k (ex_z g + k, ex_ce g e) := by
  apply List.ext_getElem?
  intro i
  rw [ex_cw_at, List.getElem?_set, List.getElem?_set, ex_cw_len, ex_cw_at]
  by_cases h : k = i
  · subst h
    rw [if_pos rfl, if_pos rfl]
    by_cases h2 : k < M.length
    · rw [if_pos h2, if_pos h2]; rfl
    · rw [if_neg h2, if_neg h2]; rfl
  · rw [if_neg h, if_neg h]
theorem ex_cw_push (g : Gx) (M : Hx) (e : hE) : ex_cw g (M ++ [e]) = ex_cw g M ++ [(ex_z g + M.length, ex_ce g e)] := by
  unfold ex_cw
  rw [List.mapIdx_append]
  simp
theorem ex_cw_D (g : Gx) (M : Hx) : va_D (ex_A g) (ex_cw g M) := by
  refine ⟨fun i j p q hi hj h => ?_, fun k q hk => ?_⟩
  · rw [ex_cw_at] at hi hj
    obtain ⟨a, -, rfl⟩ := Option.map_eq_some_iff.mp hi
    obtain ⟨b, -, rfl⟩ := Option.map_eq_some_iff.mp hj
    exact Nat.add_left_cancel h
  · rw [ex_cw_at] at hk
    obtain ⟨a, -, rfl⟩ := Option.map_eq_some_iff.mp hk
    exact Nat.le_add_right _ _
theorem ex_am_lo {g : Gx} {k : Nat} (h : k < 1000) : ex_am g k = ex_z g + k := if_pos h
theorem ex_sl_set {M : Hx} {k : Nat} {e e' : hE} (h : M[k]? = some e) (hz : ex_sz e' = ex_sz e) : ex_sl (M.set k e') = ex_sl M := by
  unfold ex_sl
  rw [List.map_set, hz]
  congr 1
  apply List.ext_getElem?
  intro i
  rw [List.getElem?_set]
  by_cases hi : k = i
  · subst hi
    rw [if_pos rfl, List.length_map, if_pos (List.getElem?_eq_some_iff.mp h).1, List.getElem?_map, h]
    rfl
  · rw [if_neg hi]
theorem ex_sl_push (M : Hx) (e : hE) : ex_sl (M ++ [e]) = ex_sl M + ex_sz e := by
  unfold ex_sl
  simp
/-- a guard -/
def gd {α : Type} (b : Bool) (x : Option α) : Option α := match b with
  | true => x
  | false => none
theorem gd_sp {α : Type} {b : Bool} {x : Option α} {r : α} (h : gd b x = some r) : b = true ∧ x = some r := by
  cases b with
  | true => exact ⟨rfl, h⟩
  | false => cases h
theorem gd_nt {b : Bool} (h : (!b) = true) : b = false := by cases b with
  | true => cases h
  | false => rfl
/-- the locals -/
def ex_pr (g : Gx) (L : Lo) : List (Nat × Value) := L.zipIdx.filterMap (fun q => q.1.map (fun v => (q.2, ex_cv g v)))
theorem ex_pr_mem {g : Gx} {L : Lo} {q : Nat × Value} : q ∈ ex_pr g L ↔ ∃ v, L[q.1]? = some (some v) ∧ q.2 = ex_cv g v := by
  unfold ex_pr
  rw [List.mem_filterMap]
  constructor
  · rintro ⟨⟨o, i⟩, h1, h2⟩
    rw [List.mem_zipIdx_iff_getElem?] at h1
    dsimp only at h1 h2
    cases o with
    | none => cases h2
    | some v => cases h2; exact ⟨v, h1, rfl⟩
  · rintro ⟨v, h1, h2⟩
    refine ⟨(some v, q.1), List.mem_zipIdx_iff_getElem?.mpr h1, ?_⟩
    show some (q.1, ex_cv g v) = some q
    rw [← h2]
theorem ex_at {g : Gx} {ls : Array Slot} {n : Nat} {L : Lo} (h : lv_has ls n (ex_pr g L)) {i : Nat} {v : Value} (hL : L[i]? = some (some v)) : ls[i]? = some (.val (ex_cv g v)) := h.2.2 (i, ex_cv g v) (ex_pr_mem.mpr ⟨v, hL, rfl⟩)
def ex_is2 : Option (Option Value) → Bool
  | some (some (.long _)) => true
  | some (some (.double _)) => true
  | _ => false
def ex_lng (L : Lo) (i : Nat) : Bool := !(i == 0) && ex_is2 L[i - 1]?
theorem ex_cat {g : Gx} {v : Value} (h : (ex_cv g v).category = 2) : ex_is2 (some (some v)) = true := by
  cases v <;> first | rfl | (simp [ex_cv, Value.category] at h; done) | (unfold ex_cv at h; dsimp only at h; split at h <;> simp [Value.category] at h)
theorem ex_store1 {g : Gx} {ls : Array Slot} {n i : Nat} {L : Lo} {v : Value} (hg : ex_lng L i = false) (h : lv_has ls n ((i, ex_cv g v) :: (ex_pr g L).filter (fun q => !(q.1 == i) && !(q.1 + 1 == i && q.2.category == 2)))) : lv_has ls n (ex_pr g (L.set i (some v))) := by
  refine ⟨h.1, h.2.1, fun q hq => ?_⟩
  apply h.2.2
  obtain ⟨w, h1, h2⟩ := ex_pr_mem.mp hq
  rw [List.getElem?_set] at h1
  by_cases hi : i = q.1
  · rw [if_pos hi] at h1
    split at h1
    · cases h1
      obtain ⟨a, b⟩ := q
      cases hi; cases h2
      exact List.mem_cons_self
    · cases h1
  · rw [if_neg hi] at h1
    refine List.mem_cons_of_mem _ (List.mem_filter.mpr ⟨ex_pr_mem.mpr ⟨w, h1, h2⟩, ?_⟩)
    have e1 : (q.1 == i) = false := by simp; exact fun e => hi e.symm
    rw [e1]
    by_cases hj : q.1 + 1 = i
    · have e2 : ¬ q.2.category = 2 := fun hc => by
        rw [h2] at hc
        have e3 := ex_cat hc
        subst hj
        unfold ex_lng at hg
        rw [Nat.add_sub_cancel, h1, e3] at hg
        simp at hg
      simp [e2]
    · simp [hj]
theorem ex_store2 {g : Gx} {ls : Array Slot} {n i : Nat} {L : Lo} {v : Value} (hg : ex_lng L i = false) (h : lv_has ls n ((i, ex_cv g v) :: (ex_pr g L).filter (fun q => !(q.1 == i) && (!(q.1 == i + 1) && !(q.1 + 1 == i && q.2.category == 2))))) : lv_has ls n (ex_pr g ((L.set i (some v)).set (i + 1) none)) := by
  refine ⟨h.1, h.2.1, fun q hq => ?_⟩
  apply h.2.2
  obtain ⟨w, h1, h2⟩ := ex_pr_mem.mp hq
  rw [List.getElem?_set] at h1
  by_cases hi1 : i + 1 = q.1
  · rw [if_pos hi1] at h1
    split at h1 <;> cases h1
  rw [if_neg hi1] at h1
  rw [List.getElem?_set] at h1
  by_cases hi : i = q.1
  · rw [if_pos hi] at h1
    split at h1
    · cases h1
      obtain ⟨a, b⟩ := q
      cases hi; cases h2
      exact List.mem_cons_self
    · cases h1
  · rw [if_neg hi] at h1
    refine List.mem_cons_of_mem _ (List.mem_filter.mpr ⟨ex_pr_mem.mpr ⟨w, h1, h2⟩, ?_⟩)
    have e1 : (q.1 == i) = false := by simp; exact fun e => hi e.symm
    have e0 : (q.1 == i + 1) = false := by simp; exact fun e => hi1 e.symm
    rw [e1, e0]
    by_cases hj : q.1 + 1 = i
    · have e2 : ¬ q.2.category = 2 := fun hc => by
        rw [h2] at hc
        have e3 := ex_cat hc
        subst hj
        unfold ex_lng at hg
        rw [Nat.add_sub_cancel, h1, e3] at hg
        simp at hg
      simp [e2]
    · simp [hj]
/-- a method's world at its start -/
def ex_Wd (g : Gx) (M : Hx) (U : State) : Prop := U.heap.size = ex_z g + M.length ∧ M.length ≤ 1000 ∧ va_P g.2.2.2 vwCl (ex_cw g M) U.heap ∧ g.1.WarmedH U.vm ∧ (∀ q : Nat, q < ex_z g → U.heap[q]? = g.1.heap[q]?)
/-- its end: what it answers, the heap behind it, nothing of the start changed -/
def ex_Q (g : Gx) (rr : Option Value × Hx) : Array Value → State → Outcome → State → Prop := fun _ st oc t => oc = .returned rr.1 ∧ t.heap.size = ex_z g + rr.2.length ∧ rr.2.length ≤ 1000 ∧ va_P g.2.2.2 vwCl (ex_cw g rr.2) t.heap ∧ va_F (ex_A g) st t
def ex_Hp (g : Gx) (s : State) (n0 s0 : Nat) (M : Hx) (H : Heap) (locs : List Loc) : Prop := M.length ≤ 1000 ∧ va_P g.2.2.2 vwCl (ex_cw g M) H ∧ va_S (ex_A g) s.heap H locs ∧ n0 ≤ M.length ∧ s0 ≤ ex_sl M
def ex_len : List Nat := [5, 5, 3, 7, 5, 4, 4, 4, 4]
def ex_byt : List (List Int32) := [[112, 108, 97, 105, 110], [121, 111, 117, 110, 103], [111, 108, 100], [100, 114, 101, 97, 109, 101, 114], [116, 104, 105, 110, 103], [116, 117, 114, 110], [114, 111, 116, 97], [119, 111, 114, 107], [116, 101, 108, 108]]
def ex_pool : List (Nat × String) := [(99, "plain"), (108, "young"), (110, "old"), (112, "dreamer"), (114, "thing"), (119, "turn"), (124, "rota"), (129, "work"), (134, "tell")]
/-- the cells of the start that the class reads: KEEPS, the words' Strings -/
def ex_X (g : Gx) : Prop := va_Z RX8 "KEEPS" "[I" (.ref (g.2.1 1009)) (ex_A g) g.1 g.1.heap ∧ va_T .int (g.2.1 1009) 4 (fun j => .int (([3, 2, 9, 6] : List Int32).getD j 0)) (ex_A g) g.1 g.1.heap ∧ va_Z "java/lang/String" "COMPACT_STRINGS" "Z" (.int 1) (ex_A g) g.1 g.1.heap ∧ vk_S 9 ex_len ex_byt (fun i => g.2.1 (1000 + i)) (fun i => g.2.1 (1010 + i)) (ex_A g) g.1 g.1.heap ∧ (∀ (i : Nat) (q : Nat × String), ex_pool[i]? = some q → vk_R RX5 q.1 q.2 (g.2.1 (1000 + i)) g.1) ∧ va_Z "jdk/internal/util/Preconditions" "SIOOBE_FORMATTER" "Ljava/util/function/BiFunction;" (if g.2.1 1021 = 0 then .null else .ref (g.2.1 1020)) (ex_A g) g.1 g.1.heap
/-- what is known of the start -/
def ex_Ok (g : Gx) : Prop := (∃ A : Array Value, (∀ w ∈ lw_tbl, w.before A g.1 = true) ∧ (Jvm.Cond.and given_1 narrow_1).before A g.1 = true) ∧ va_K g.2.2.2 vwCl (ex_ty g) g.1 ∧ ex_X g
abbrev Cx : Type := Gx × Program × Launch × Env × Room × State × MethodId × Array Value × List Frame × Method × Code × (Option Value × Hx) × Nat × Nat
/-- a method's code, locals, class, name, return, frames, locals' words -/
abbrev Px : Type := ByteArray × Nat × String × String × Option FieldType × Nat × Nat × (Gx → Prop)
def Fx (P : Px) (X : Cx) : Prop := match X with
  | (g, p, _, _, R, s, m, args, _, meth, c, rr, n0, s0) => ex_Ok g ∧ g.1.WarmedH s.vm ∧ s.heap.size = ex_z g + n0 ∧ (∀ q : Nat, q < ex_z g → s.heap[q]? = g.1.heap[q]?) ∧ p.tables.exec = Jvm.exec ∧ c.code = P.1 ∧ c.maxLocals = P.2.1 ∧ s.vm.findClass P.2.2.1 = some m.cls ∧ (∀ w ∈ ex_tb, w.before args s = true) ∧ meth.sig.returnType = P.2.2.2.2.1 ∧ meth.locks = false ∧ meth.name = P.2.2.2.1 ∧ va_K g.2.2.2 vwCl (ex_ty g) s ∧ P.2.2.2.2.2.1 ≤ R.frames ∧ P.2.2.2.2.2.2.1 ≤ R.locals ∧ rr.2.length - n0 ≤ R.cells ∧ ex_sl rr.2 - s0 ≤ R.slots ∧ P.2.2.2.2.2.2.2 g
def Wx (X : Cx) (L : Lo) (st : List Value) (M : Hx) (pc : Nat) : Prop := match X with
  | (g, p, l, e, R, s, m, args, below, meth, c, rr, n0, s0) => ∀ (ls : Array Slot) (H : Heap) (locs : List Loc), lv_has ls c.maxLocals (ex_pr g L) → ex_Hp g s n0 s0 M H locs → W p l e R s m args below meth c H locs (M.length - n0) (ex_sl M - s0) (MQ below (ex_Q g rr) args s (rr.2.length - n0) (ex_sl rr.2 - s0) (ex_A g)) (F0 m pc ls (st.map (ex_cv g)))
def ex_rr (X : Cx) : Option Value × Hx := X.2.2.2.2.2.2.2.2.2.2.2.1
/-- the continuation K is right at pc: where it comes to an answer, the machine does -/
def Sd (P : Px) {ρ : Type} (ev : ρ → Option Value) (pc : Nat) (K : Kt ρ) : Prop := ∀ (L : Lo) (st : List Value) (M : Hx) (r : ρ × Hx), K L st M = some r → (M.length ≤ r.2.length ∧ ex_sl M ≤ ex_sl r.2) ∧ ∀ X : Cx, Fx P X → (ev r.1, r.2) = ex_rr X → Wx X L st M pc
/-- a method's contract: its function f tells what it answers and what the heap is behind it -/
def Ct {ρ : Type} (ev : ρ → Option Value) (y : MethodName) (cc : ByteArray) (nL : Nat) (ret : Option FieldType) (fr lo : Nat) (f : Mt ρ) : Prop := (∀ (as : List Value) (M : Hx) (r : ρ × Hx), f as M = some r → M.length ≤ r.2.length ∧ ex_sl M ≤ ex_sl r.2) ∧ ∀ (l : Launch) (g : Gx) (as : List Value) (M : Hx) (r : ρ × Hx), ex_Ok g → f as M = some r → Met l y (.code y cc nL ret :: ex_tb) { frames := fr, cells := r.2.length - M.length, slots := ex_sl r.2 - ex_sl M, locals := lo } (va_Pc (as.map (ex_cv g)) (ex_Wd g M)) (ex_Q g (ev r.1, r.2)) (r.2.length - M.length) (ex_sl r.2 - ex_sl M) (ex_A g)
def ev_i (x : Int32) : Option Value := some (.int x)
def ev_l (x : Int64) : Option Value := some (.long x)
def ev_v (_ : Unit) : Option Value := none
theorem ex_Hp.get {g : Gx} {s : State} {n0 s0 : Nat} {M : Hx} {H : Heap} {locs : List Loc} (h : ex_Hp g s n0 s0 M H locs) {k : Nat} {e : hE} (hk : M[k]? = some e) : (ex_cw g M)[k]? = some (ex_am g k, ex_ce g e) := by
  have hl : k < 1000 := Nat.lt_of_lt_of_le (List.getElem?_eq_some_iff.mp hk).1 h.1
  rw [ex_cw_at, hk, ex_am_lo hl]; rfl
theorem ex_Hp.put {g : Gx} {s : State} {n0 s0 : Nat} {M : Hx} {H H1 : Heap} {locs locs1 : List Loc} (h : ex_Hp g s n0 s0 M H locs) {k : Nat} {e e' : hE} (hk : M[k]? = some e) (hz : ex_sz e' = ex_sz e) (hP : va_P g.2.2.2 vwCl ((ex_cw g M).set k (ex_am g k, ex_ce g e')) H1) (hS : va_S (ex_A g) s.heap H1 locs1) : ex_Hp g s n0 s0 (M.set k e') H1 locs1 := by
  have hl : k < 1000 := Nat.lt_of_lt_of_le (List.getElem?_eq_some_iff.mp hk).1 h.1
  rw [ex_am_lo hl] at hP
  exact ⟨by rw [List.length_set]; exact h.1, by rw [ex_cw_set]; exact hP, hS, by rw [List.length_set]; exact h.2.2.2.1, by rw [ex_sl_set hk hz]; exact h.2.2.2.2⟩
theorem ex_Hp.size {g : Gx} {s : State} {n0 s0 : Nat} {M : Hx} {locs : List Loc} {p : Program} {l : Launch} {e : Env} {R : Room} {m : MethodId} {args : Array Value} {below : List Frame} {meth : Method} {c : Code} {T : State} {slots : Nat} (h : ex_Hp g s n0 s0 M T.heap locs) (hs : s.heap.size = ex_z g + n0) (X : Stand p l e R s m args below meth c T locs (M.length - n0) slots) : T.heap.size = ex_z g + M.length := by
  have h1 : T.heap.size ≤ s.heap.size + (M.length - n0) := X.same.2.2.1
  have h2 := h.2.2.1.1
  have h3 := h.2.2.2.1
  by_cases hz : M.length = n0
  · omega
  · have h4 : M.length - 1 < M.length := by omega
    have h5 := h.2.1 (M.length - 1) _ (by rw [ex_cw_at, List.getElem?_eq_getElem h4]; rfl)
    have h6 : ex_z g + (M.length - 1) < T.heap.size := h5.lt
    omega
