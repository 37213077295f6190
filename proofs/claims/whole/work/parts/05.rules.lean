def o_psh {ρ : Type} (v : Value) (K : Kt ρ) : Kt ρ := fun L st M => K L (v :: st) M
def o_ild {ρ : Type} (i : Nat) (K : Kt ρ) : Kt ρ := fun L st M => match L[i]? with
  | some (some (.int x)) => K L (.int x :: st) M
  | _ => none
def o_lld {ρ : Type} (i : Nat) (K : Kt ρ) : Kt ρ := fun L st M => match L[i]? with
  | some (some (.long x)) => K L (.long x :: st) M
  | _ => none
def o_ald {ρ : Type} (i : Nat) (K : Kt ρ) : Kt ρ := fun L st M => match L[i]? with
  | some (some (.ref x)) => K L (.ref x :: st) M
  | _ => none
def o_ist {ρ : Type} (i : Nat) (K : Kt ρ) : Kt ρ := fun L st M => match st with
  | .int x :: r => gd (!(ex_lng L i)) (K (L.set i (some (.int x))) r M)
  | _ => none
def o_ast {ρ : Type} (i : Nat) (K : Kt ρ) : Kt ρ := fun L st M => match st with
  | .ref x :: r => gd (!(ex_lng L i)) (K (L.set i (some (.ref x))) r M)
  | _ => none
def o_lst {ρ : Type} (i : Nat) (K : Kt ρ) : Kt ρ := fun L st M => match st with
  | .long x :: r => gd (!(ex_lng L i)) (K ((L.set i (some (.long x))).set (i + 1) none) r M)
  | _ => none
def o_inc {ρ : Type} (i : Nat) (d : Int32) (K : Kt ρ) : Kt ρ := fun L st M => match L[i]? with
  | some (some (.int x)) => gd (!(ex_lng L i)) (K (L.set i (some (.int (x + d)))) st M)
  | _ => none
def o_i2 {ρ : Type} (f : Int32 → Int32 → Int32) (K : Kt ρ) : Kt ρ := fun L st M => match st with
  | .int y :: .int x :: r => K L (.int (f x y) :: r) M
  | _ => none
def o_idv {ρ : Type} (K : Kt ρ) : Kt ρ := fun L st M => match st with
  | .int y :: .int x :: r => if y = 0 then none else K L (.int (x / y) :: r) M
  | _ => none
def o_irm {ρ : Type} (K : Kt ρ) : Kt ρ := fun L st M => match st with
  | .int y :: .int x :: r => if y = 0 then none else K L (.int (x - x / y * y) :: r) M
  | _ => none
def o_i1 {ρ : Type} (f : Int32 → Int32) (K : Kt ρ) : Kt ρ := fun L st M => match st with
  | .int x :: r => K L (.int (f x) :: r) M
  | _ => none
def o_i2l {ρ : Type} (K : Kt ρ) : Kt ρ := fun L st M => match st with
  | .int x :: r => K L (.long x.toInt64 :: r) M
  | _ => none
def o_l2 {ρ : Type} (f : Int64 → Int64 → Int64) (K : Kt ρ) : Kt ρ := fun L st M => match st with
  | .long y :: .long x :: r => K L (.long (f x y) :: r) M
  | _ => none
def o_ldv {ρ : Type} (K : Kt ρ) : Kt ρ := fun L st M => match st with
  | .long y :: .long x :: r => if y = 0 then none else K L (.long (x / y) :: r) M
  | _ => none
def o_lrm {ρ : Type} (K : Kt ρ) : Kt ρ := fun L st M => match st with
  | .long y :: .long x :: r => if y = 0 then none else K L (.long (x - x / y * y) :: r) M
  | _ => none
def o_lcm {ρ : Type} (K : Kt ρ) : Kt ρ := fun L st M => match st with
  | .long y :: .long x :: r => K L (.int (lg_cmp x y) :: r) M
  | _ => none
def o_dup {ρ : Type} (K : Kt ρ) : Kt ρ := fun L st M => match st with
  | .int x :: r => K L (.int x :: .int x :: r) M
  | .ref x :: r => K L (.ref x :: .ref x :: r) M
  | _ => none
def o_pop {ρ : Type} (K : Kt ρ) : Kt ρ := fun L st M => match st with
  | .int _ :: r => K L r M
  | _ => none
def o_du2 {ρ : Type} (K : Kt ρ) : Kt ρ := fun L st M => match st with
  | .int x :: .ref y :: r => K L (.int x :: .ref y :: .int x :: .ref y :: r) M
  | _ => none
def o_oin {ρ : Type} (K : Kt ρ) : Kt ρ := fun L st M => match st with
  | .ref _ :: r => gd (decide (r.length ≤ 4)) (K L r M)
  | _ => none
def h_I (M : Hx) (c a k : Nat) : Option Int32 := match M[a]? with
  | some (.inr (d, fs)) => if d = c then (match fs[k]? with | some (.int x) => some x | _ => none) else none
  | _ => none
def h_R (M : Hx) (c a k : Nat) : Option Nat := match M[a]? with
  | some (.inr (d, fs)) => if d = c then (match fs[k]? with | some (.ref x) => some x | _ => none) else none
  | _ => none
def h_P (M : Hx) (c a k : Nat) (v : Value) : Option Hx := match M[a]? with
  | some (.inr (d, fs)) => if d = c ∧ k < fs.length then some (M.set a (.inr (d, fs.set k v))) else none
  | _ => none
def h_A (M : Hx) (t a : Nat) (i : Int32) : Option Int32 := match M[a]? with
  | some (.inl (u, n, .inl f)) => if u = t ∧ ¬ i < 0 ∧ i.toNatClampNeg < n then some (f i.toNatClampNeg) else none
  | _ => none
def h_S (M : Hx) (t a : Nat) (i x : Int32) : Option Hx := match M[a]? with
  | some (.inl (u, n, .inl f)) => if u = t ∧ ¬ i < 0 ∧ i.toNatClampNeg < n then some (M.set a (.inl (u, n, .inl (upd f i.toNatClampNeg x)))) else none
  | _ => none
def h_AR (M : Hx) (t a : Nat) (i : Int32) : Option Nat := match M[a]? with
  | some (.inl (u, n, .inr f)) => if u = t ∧ ¬ i < 0 ∧ i.toNatClampNeg < n then f i.toNatClampNeg else none
  | _ => none
def h_SR (M : Hx) (t c a : Nat) (i : Int32) (b : Nat) : Option Hx := match M[a]?, M[b]? with
  | some (.inl (u, n, .inr f)), some (.inr (d, _)) => if u = t ∧ d = c ∧ ¬ i < 0 ∧ i.toNatClampNeg < n then some (M.set a (.inl (u, n, .inr (va_up f i.toNatClampNeg (some b))))) else none
  | _, _ => none
def h_L (M : Hx) (a : Nat) : Option Int32 := match M[a]? with
  | some (.inl (u, n, .inl _)) => if u = 0 then some (Int32.ofNat n) else none
  | _ => none
def h_C (M : Hx) (a0 a1 : Nat) (sp dp n : Int32) : Option Hx := match M[a0]?, M[a1]? with
  | some (.inl (u0, n0, .inl f0)), some (.inl (u1, n1, .inl f1)) => if u0 = 0 ∧ u1 = 0 ∧ ¬ sp < 0 ∧ ¬ dp < 0 ∧ ¬ n < 0 ∧ sp.toNatClampNeg + n.toNatClampNeg ≤ n0 ∧ dp.toNatClampNeg + n.toNatClampNeg ≤ n1 then some (M.set a1 (.inl (u1, n1, .inl (va_cpy f0 f1 sp.toNatClampNeg dp.toNatClampNeg n.toNatClampNeg)))) else none
  | _, _ => none
def o_gI {ρ : Type} (c k : Nat) (K : Kt ρ) : Kt ρ := fun L st M => match st with
  | .ref a :: r => (h_I M c a k).bind fun x => K L (.int x :: r) M
  | _ => none
def o_gR {ρ : Type} (c k : Nat) (K : Kt ρ) : Kt ρ := fun L st M => match st with
  | .ref a :: r => (h_R M c a k).bind fun x => K L (.ref x :: r) M
  | _ => none
def o_pI {ρ : Type} (c k : Nat) (K : Kt ρ) : Kt ρ := fun L st M => match st with
  | .int x :: .ref a :: r => (h_P M c a k (.int x)).bind fun M => K L r M
  | _ => none
def o_pZ {ρ : Type} (c k : Nat) (K : Kt ρ) : Kt ρ := fun L st M => match st with
  | .int x :: .ref a :: r => if x = 0 ∨ x = 1 then (h_P M c a k (.int x)).bind fun M => K L r M else none
  | _ => none
def o_pR {ρ : Type} (c k : Nat) (K : Kt ρ) : Kt ρ := fun L st M => match st with
  | .ref x :: .ref a :: r => (h_P M c a k (.ref x)).bind fun M => K L r M
  | _ => none
def o_aI {ρ : Type} (K : Kt ρ) : Kt ρ := fun L st M => match st with
  | .int i :: .ref a :: r => (h_A M 0 a i).bind fun x => K L (.int x :: r) M
  | _ => none
def o_aZ {ρ : Type} (K : Kt ρ) : Kt ρ := fun L st M => match st with
  | .int i :: .ref a :: r => (h_A M 1 a i).bind fun x => K L (.int x :: r) M
  | _ => none
def o_aR {ρ : Type} (t : Nat) (K : Kt ρ) : Kt ρ := fun L st M => match st with
  | .int i :: .ref a :: r => (h_AR M t a i).bind fun x => K L (.ref x :: r) M
  | _ => none
def o_sI {ρ : Type} (K : Kt ρ) : Kt ρ := fun L st M => match st with
  | .int x :: .int i :: .ref a :: r => (h_S M 0 a i x).bind fun M => K L r M
  | _ => none
def o_sZ {ρ : Type} (K : Kt ρ) : Kt ρ := fun L st M => match st with
  | .int x :: .int i :: .ref a :: r => if x = 0 ∨ x = 1 then (h_S M 1 a i x).bind fun M => K L r M else none
  | _ => none
def o_sR {ρ : Type} (t c : Nat) (K : Kt ρ) : Kt ρ := fun L st M => match st with
  | .ref b :: .int i :: .ref a :: r => (h_SR M t c a i b).bind fun M => K L r M
  | _ => none
def o_aln {ρ : Type} (K : Kt ρ) : Kt ρ := fun L st M => match st with
  | .ref a :: r => (h_L M a).bind fun x => K L (.int x :: r) M
  | _ => none
def o_cpy {ρ : Type} (K : Kt ρ) : Kt ρ := fun L st M => match st with
  | .int n :: .int dp :: .ref a1 :: .int sp :: .ref a0 :: r => gd (decide (r.length ≤ 4)) ((h_C M a0 a1 sp dp n).bind fun M => K L r M)
  | _ => none
def o_new {ρ : Type} (c : Nat) (fs : List Value) (K : Kt ρ) : Kt ρ := fun L st M => if M.length < 1000 then K L (.ref M.length :: st) (M ++ [.inr (c, fs)]) else none
def o_nwI {ρ : Type} (t : Nat) (K : Kt ρ) : Kt ρ := fun L st M => match st with
  | .int n :: r => if ¬ n < 0 ∧ n.toNatClampNeg ≤ 100000 ∧ M.length < 1000 then K L (.ref M.length :: r) (M ++ [.inl (t, n.toNatClampNeg, .inl (fun _ => 0))]) else none
  | _ => none
def o_nwR {ρ : Type} (t : Nat) (K : Kt ρ) : Kt ρ := fun L st M => match st with
  | .int n :: r => if ¬ n < 0 ∧ n.toNatClampNeg ≤ 100000 ∧ M.length < 1000 then K L (.ref M.length :: r) (M ++ [.inl (t, n.toNatClampNeg, .inr (fun _ => none))]) else none
  | _ => none
def h_K (M : Hx) (c a : Nat) : Bool := match M[a]? with
  | some (.inr (d, _)) => d == c
  | _ => false
def o_vc {ρ ρ' : Type} (ev' : ρ' → Option Value) (c n : Nat) (f : Mt ρ') (K : Kt ρ) : Kt ρ := fun L st M => match (st.take n).reverse with
  | .ref b :: as => gd (decide (as.length + 1 = n)) (gd (decide ((st.drop n).length ≤ 4)) (gd (h_K M c b) ((f (.ref b :: as) M).bind fun q => K L ((ev' q.1).toList ++ st.drop n) q.2)))
  | _ => none
def o_sc {ρ ρ' : Type} (ev' : ρ' → Option Value) (n : Nat) (f : Mt ρ') (K : Kt ρ) : Kt ρ := fun L st M => gd (decide ((st.take n).length = n)) (gd (decide ((st.drop n).length ≤ 4)) ((f (st.take n).reverse M).bind fun q => K L ((ev' q.1).toList ++ st.drop n) q.2))
def o_nc {ρ : Type} (n : Nat) (f : Mt Unit) (K : Kt ρ) : Kt ρ := fun L st M => match (st.take n).reverse with
  | .ref b :: as => gd (decide (as.length + 1 = n)) (gd (decide ((st.drop n).length ≤ 4)) ((f (.ref b :: as) M).bind fun q => K L (st.drop n) q.2))
  | _ => none
def o_rI : Kt Int32 := fun _ st M => match st with
  | [.int x] => some (x, M)
  | _ => none
def o_rZ : Kt Int32 := fun _ st M => match st with
  | [.int x] => if x = 0 ∨ x = 1 then some (x, M) else none
  | _ => none
def o_rL : Kt Int64 := fun _ st M => match st with
  | [.long x] => some (x, M)
  | _ => none
def o_rV : Kt Unit := fun _ st M => match st with
  | [] => some ((), M)
  | _ => none
def o_zeq {ρ : Type} (K K2 : Kt ρ) : Kt ρ := fun L st M => match st with
  | .int x :: r => if x = 0 then K L r M else K2 L r M
  | _ => none
def o_ceq {ρ : Type} (K K2 : Kt ρ) : Kt ρ := fun L st M => match st with
  | .int y :: .int x :: r => if x = y then K L r M else K2 L r M
  | _ => none
def o_zne {ρ : Type} (K K2 : Kt ρ) : Kt ρ := fun L st M => match st with
  | .int x :: r => if x = 0 then K2 L r M else K L r M
  | _ => none
def o_cne {ρ : Type} (K K2 : Kt ρ) : Kt ρ := fun L st M => match st with
  | .int y :: .int x :: r => if x = y then K2 L r M else K L r M
  | _ => none
def o_zlt {ρ : Type} (K K2 : Kt ρ) : Kt ρ := fun L st M => match st with
  | .int x :: r => if x < 0 then K L r M else K2 L r M
  | _ => none
def o_clt {ρ : Type} (K K2 : Kt ρ) : Kt ρ := fun L st M => match st with
  | .int y :: .int x :: r => if x < y then K L r M else K2 L r M
  | _ => none
def o_zge {ρ : Type} (K K2 : Kt ρ) : Kt ρ := fun L st M => match st with
  | .int x :: r => if 0 ≤ x then K L r M else K2 L r M
  | _ => none
def o_cge {ρ : Type} (K K2 : Kt ρ) : Kt ρ := fun L st M => match st with
  | .int y :: .int x :: r => if y ≤ x then K L r M else K2 L r M
  | _ => none
def o_zgt {ρ : Type} (K K2 : Kt ρ) : Kt ρ := fun L st M => match st with
  | .int x :: r => if 0 < x then K L r M else K2 L r M
  | _ => none
def o_cgt {ρ : Type} (K K2 : Kt ρ) : Kt ρ := fun L st M => match st with
  | .int y :: .int x :: r => if y < x then K L r M else K2 L r M
  | _ => none
def o_zle {ρ : Type} (K K2 : Kt ρ) : Kt ρ := fun L st M => match st with
  | .int x :: r => if x ≤ 0 then K L r M else K2 L r M
  | _ => none
def o_cle {ρ : Type} (K K2 : Kt ρ) : Kt ρ := fun L st M => match st with
  | .int y :: .int x :: r => if x ≤ y then K L r M else K2 L r M
  | _ => none
def swg {α : Type} (x : Int32) : List (Int32 × Option α) → Option α → Option α
  | [], d => d
  | q :: t, d => if x = q.1 then q.2 else swg x t d
def o_sw {ρ : Type} (Ks : List (Int32 × Kt ρ)) (Kd : Kt ρ) : Kt ρ := fun L st M => match st with
  | .int x :: r => swg x (Ks.map fun q => (q.1, q.2 L r M)) (Kd L r M)
  | _ => none
section RL
variable {ρ : Type} {ev : ρ → Option Value} {P : Px} {pc : Nat} {K K2 : Kt ρ}
theorem sd_iconst {n : Int} {v : Int32} (d : decode P.1 pc = .ok (.iconst n, 1)) (hv : Int32.ofInt n = v) (h : Sd P ev (pc + 1) K) : Sd P ev pc (o_psh (.int v) K) := by
  intro L st M r h1
  obtain ⟨hm, hw⟩ := h _ _ _ _ h1
  exact ⟨hm, fun X F h2 => by
      obtain ⟨g, p, l, e, R, s, m, args, below, meth, c, rr, n0, s0⟩ := X
      have hw := hw _ F h2
      obtain ⟨hOk, hW0, hz, hq, hx, hb, hml, hown, hts, hr, hlk, hnm, hK, hfr, hlo, hRc, hRs, hhyp⟩ := F
      exact fun ls H locs hl hp => lv_iconst hx hb d hv (hw ls H locs hl hp)⟩
theorem sd_bipush {n : Int} {v : Int32} (d : decode P.1 pc = .ok (.bipush n, 2)) (hv : (Int8.ofInt n).toInt32 = v) (h : Sd P ev (pc + 2) K) : Sd P ev pc (o_psh (.int v) K) := by
  intro L st M r h1
  obtain ⟨hm, hw⟩ := h _ _ _ _ h1
  exact ⟨hm, fun X F h2 => by
      obtain ⟨g, p, l, e, R, s, m, args, below, meth, c, rr, n0, s0⟩ := X
      have hw := hw _ F h2
      obtain ⟨hOk, hW0, hz, hq, hx, hb, hml, hown, hts, hr, hlk, hnm, hK, hfr, hlo, hRc, hRs, hhyp⟩ := F
      exact fun ls H locs hl hp => lv_bipush hx hb d hv (hw ls H locs hl hp)⟩
theorem sd_sipush {n : Int} {v : Int32} (d : decode P.1 pc = .ok (.sipush n, 3)) (hv : (Int16.ofInt n).toInt32 = v) (h : Sd P ev (pc + 3) K) : Sd P ev pc (o_psh (.int v) K) := by
  intro L st M r h1
  obtain ⟨hm, hw⟩ := h _ _ _ _ h1
  exact ⟨hm, fun X F h2 => by
      obtain ⟨g, p, l, e, R, s, m, args, below, meth, c, rr, n0, s0⟩ := X
      have hw := hw _ F h2
      obtain ⟨hOk, hW0, hz, hq, hx, hb, hml, hown, hts, hr, hlk, hnm, hK, hfr, hlo, hRc, hRs, hhyp⟩ := F
      exact fun ls H locs hl hp => lv_sipush hx hb d hv (hw ls H locs hl hp)⟩
theorem sd_lconst {n : Fin 2} {v : Int64} (d : decode P.1 pc = .ok (.lconst n, 1)) (hv : Int64.ofNat (n : Nat) = v) (h : Sd P ev (pc + 1) K) : Sd P ev pc (o_psh (.long v) K) := by
  intro L st M r h1
  obtain ⟨hm, hw⟩ := h _ _ _ _ h1
  exact ⟨hm, fun X F h2 => by
      obtain ⟨g, p, l, e, R, s, m, args, below, meth, c, rr, n0, s0⟩ := X
      have hw := hw _ F h2
      obtain ⟨hOk, hW0, hz, hq, hx, hb, hml, hown, hts, hr, hlk, hnm, hK, hfr, hlo, hRc, hRs, hhyp⟩ := F
      exact fun ls H locs hl hp => lv_lconst hx hb d hv (hw ls H locs hl hp)⟩
theorem sd_iload_n {k : Fin 4} {i : Nat} (d : decode P.1 pc = .ok (.iload_n k, 1)) (hi : (k : Nat) = i) (h : Sd P ev (pc + 1) K) : Sd P ev pc (o_ild i K) := by
  intro L st M r h1
  unfold o_ild at h1
  split at h1
  · rename_i x hL
    obtain ⟨hm, hw⟩ := h _ _ _ _ h1
    exact ⟨hm, fun X F h2 => by
      obtain ⟨g, p, l, e, R, s, m, args, below, meth, c, rr, n0, s0⟩ := X
      have hw := hw _ F h2
      obtain ⟨hOk, hW0, hz, hq, hx, hb, hml, hown, hts, hr, hlk, hnm, hK, hfr, hlo, hRc, hRs, hhyp⟩ := F
      exact fun ls H locs hl hp => lv_iload_n hx hb d hi (ex_at hl hL) (hw ls H locs hl hp)⟩
  · cases h1
theorem sd_iload {i : Nat} (d : decode P.1 pc = .ok (.iload i, 2)) (h : Sd P ev (pc + 2) K) : Sd P ev pc (o_ild i K) := by
  intro L st M r h1
  unfold o_ild at h1
  split at h1
  · rename_i x hL
    obtain ⟨hm, hw⟩ := h _ _ _ _ h1
    exact ⟨hm, fun X F h2 => by
      obtain ⟨g, p, l, e, R, s, m, args, below, meth, c, rr, n0, s0⟩ := X
      have hw := hw _ F h2
      obtain ⟨hOk, hW0, hz, hq, hx, hb, hml, hown, hts, hr, hlk, hnm, hK, hfr, hlo, hRc, hRs, hhyp⟩ := F
      exact fun ls H locs hl hp => lv_iload hx hb d (ex_at hl hL) (hw ls H locs hl hp)⟩
  · cases h1
theorem sd_lload_n {k : Fin 4} {i : Nat} (d : decode P.1 pc = .ok (.lload_n k, 1)) (hi : (k : Nat) = i) (h : Sd P ev (pc + 1) K) : Sd P ev pc (o_lld i K) := by
  intro L st M r h1
  unfold o_lld at h1
  split at h1
  · rename_i x hL
    obtain ⟨hm, hw⟩ := h _ _ _ _ h1
    exact ⟨hm, fun X F h2 => by
      obtain ⟨g, p, l, e, R, s, m, args, below, meth, c, rr, n0, s0⟩ := X
      have hw := hw _ F h2
      obtain ⟨hOk, hW0, hz, hq, hx, hb, hml, hown, hts, hr, hlk, hnm, hK, hfr, hlo, hRc, hRs, hhyp⟩ := F
      exact fun ls H locs hl hp => lv_lload_n hx hb d hi (ex_at hl hL) (hw ls H locs hl hp)⟩
  · cases h1
theorem sd_lload {i : Nat} (d : decode P.1 pc = .ok (.lload i, 2)) (h : Sd P ev (pc + 2) K) : Sd P ev pc (o_lld i K) := by
  intro L st M r h1
  unfold o_lld at h1
  split at h1
  · rename_i x hL
    obtain ⟨hm, hw⟩ := h _ _ _ _ h1
    exact ⟨hm, fun X F h2 => by
      obtain ⟨g, p, l, e, R, s, m, args, below, meth, c, rr, n0, s0⟩ := X
      have hw := hw _ F h2
      obtain ⟨hOk, hW0, hz, hq, hx, hb, hml, hown, hts, hr, hlk, hnm, hK, hfr, hlo, hRc, hRs, hhyp⟩ := F
      exact fun ls H locs hl hp => lv_lload hx hb d (ex_at hl hL) (hw ls H locs hl hp)⟩
  · cases h1
theorem sd_aload_n {k : Fin 4} {i : Nat} (d : decode P.1 pc = .ok (.aload_n k, 1)) (hi : (k : Nat) = i) (h : Sd P ev (pc + 1) K) : Sd P ev pc (o_ald i K) := by
  intro L st M r h1
  unfold o_ald at h1
  split at h1
  · rename_i x hL
    obtain ⟨hm, hw⟩ := h _ _ _ _ h1
    exact ⟨hm, fun X F h2 => by
      obtain ⟨g, p, l, e, R, s, m, args, below, meth, c, rr, n0, s0⟩ := X
      have hw := hw _ F h2
      obtain ⟨hOk, hW0, hz, hq, hx, hb, hml, hown, hts, hr, hlk, hnm, hK, hfr, hlo, hRc, hRs, hhyp⟩ := F
      exact fun ls H locs hl hp => lv_aload_n hx hb d hi (ex_at hl hL) (hw ls H locs hl hp)⟩
  · cases h1
theorem sd_aload {i : Nat} (d : decode P.1 pc = .ok (.aload i, 2)) (h : Sd P ev (pc + 2) K) : Sd P ev pc (o_ald i K) := by
  intro L st M r h1
  unfold o_ald at h1
  split at h1
  · rename_i x hL
    obtain ⟨hm, hw⟩ := h _ _ _ _ h1
    exact ⟨hm, fun X F h2 => by
      obtain ⟨g, p, l, e, R, s, m, args, below, meth, c, rr, n0, s0⟩ := X
      have hw := hw _ F h2
      obtain ⟨hOk, hW0, hz, hq, hx, hb, hml, hown, hts, hr, hlk, hnm, hK, hfr, hlo, hRc, hRs, hhyp⟩ := F
      exact fun ls H locs hl hp => lv_aload hx hb d (ex_at hl hL) (hw ls H locs hl hp)⟩
  · cases h1
theorem sd_istore_n {k : Fin 4} {i : Nat} (d : decode P.1 pc = .ok (.istore_n k, 1)) (hi : (k : Nat) = i) (hn : i < P.2.1) (h : Sd P ev (pc + 1) K) : Sd P ev pc (o_ist i K) := by
  intro L st M r h1
  unfold o_ist at h1
  split at h1
  · rename_i x r
    obtain ⟨hlg, h1⟩ := gd_sp h1
    obtain ⟨hm, hw⟩ := h _ _ _ _ h1
    exact ⟨hm, fun X F h2 => by
      obtain ⟨g, p, l, e, R, s, m, args, below, meth, c, rr, n0, s0⟩ := X
      have hw := hw _ F h2
      obtain ⟨hOk, hW0, hz, hq, hx, hb, hml, hown, hts, hr, hlk, hnm, hK, hfr, hlo, hRc, hRs, hhyp⟩ := F
      exact fun ls H locs hl hp => lv_istore_n hx hb d hi hl (by rw [hml]; exact hn) rfl (fun ls' hl' => hw ls' H locs (ex_store1 (v := .int x) (gd_nt hlg) hl') hp)⟩
  · cases h1
theorem sd_istore {i : Nat} (d : decode P.1 pc = .ok (.istore i, 2)) (hn : i < P.2.1) (h : Sd P ev (pc + 2) K) : Sd P ev pc (o_ist i K) := by
  intro L st M r h1
  unfold o_ist at h1
  split at h1
  · rename_i x r
    obtain ⟨hlg, h1⟩ := gd_sp h1
    obtain ⟨hm, hw⟩ := h _ _ _ _ h1
    exact ⟨hm, fun X F h2 => by
      obtain ⟨g, p, l, e, R, s, m, args, below, meth, c, rr, n0, s0⟩ := X
      have hw := hw _ F h2
      obtain ⟨hOk, hW0, hz, hq, hx, hb, hml, hown, hts, hr, hlk, hnm, hK, hfr, hlo, hRc, hRs, hhyp⟩ := F
      exact fun ls H locs hl hp => lv_istore hx hb d hl (by rw [hml]; exact hn) rfl (fun ls' hl' => hw ls' H locs (ex_store1 (v := .int x) (gd_nt hlg) hl') hp)⟩
  · cases h1
theorem sd_astore_n {k : Fin 4} {i : Nat} (d : decode P.1 pc = .ok (.astore_n k, 1)) (hi : (k : Nat) = i) (hn : i < P.2.1) (h : Sd P ev (pc + 1) K) : Sd P ev pc (o_ast i K) := by
  intro L st M r h1
  unfold o_ast at h1
  split at h1
  · rename_i x r
    obtain ⟨hlg, h1⟩ := gd_sp h1
    obtain ⟨hm, hw⟩ := h _ _ _ _ h1
    exact ⟨hm, fun X F h2 => by
      obtain ⟨g, p, l, e, R, s, m, args, below, meth, c, rr, n0, s0⟩ := X
      have hw := hw _ F h2
      obtain ⟨hOk, hW0, hz, hq, hx, hb, hml, hown, hts, hr, hlk, hnm, hK, hfr, hlo, hRc, hRs, hhyp⟩ := F
      exact fun ls H locs hl hp => lv_astore_n hx hb d hi hl (by rw [hml]; exact hn) rfl (fun ls' hl' => hw ls' H locs (ex_store1 (v := .ref x) (gd_nt hlg) hl') hp)⟩
  · cases h1
theorem sd_astore {i : Nat} (d : decode P.1 pc = .ok (.astore i, 2)) (hn : i < P.2.1) (h : Sd P ev (pc + 2) K) : Sd P ev pc (o_ast i K) := by
  intro L st M r h1
  unfold o_ast at h1
  split at h1
  · rename_i x r
    obtain ⟨hlg, h1⟩ := gd_sp h1
    obtain ⟨hm, hw⟩ := h _ _ _ _ h1
    exact ⟨hm, fun X F h2 => by
      obtain ⟨g, p, l, e, R, s, m, args, below, meth, c, rr, n0, s0⟩ := X
      have hw := hw _ F h2
      obtain ⟨hOk, hW0, hz, hq, hx, hb, hml, hown, hts, hr, hlk, hnm, hK, hfr, hlo, hRc, hRs, hhyp⟩ := F
      exact fun ls H locs hl hp => lv_astore hx hb d hl (by rw [hml]; exact hn) rfl (fun ls' hl' => hw ls' H locs (ex_store1 (v := .ref x) (gd_nt hlg) hl') hp)⟩
  · cases h1
theorem sd_lstore_n {k : Fin 4} {i : Nat} (d : decode P.1 pc = .ok (.lstore_n k, 1)) (hi : (k : Nat) = i) (hn : i + 1 < P.2.1) (h : Sd P ev (pc + 1) K) : Sd P ev pc (o_lst i K) := by
  intro L st M r h1
  unfold o_lst at h1
  split at h1
  · rename_i x r
    obtain ⟨hlg, h1⟩ := gd_sp h1
    obtain ⟨hm, hw⟩ := h _ _ _ _ h1
    exact ⟨hm, fun X F h2 => by
      obtain ⟨g, p, l, e, R, s, m, args, below, meth, c, rr, n0, s0⟩ := X
      have hw := hw _ F h2
      obtain ⟨hOk, hW0, hz, hq, hx, hb, hml, hown, hts, hr, hlk, hnm, hK, hfr, hlo, hRc, hRs, hhyp⟩ := F
      exact fun ls H locs hl hp => lv_lstore_n hx hb d hi hl (by rw [hml]; exact hn) rfl (fun ls' hl' => hw ls' H locs (ex_store2 (v := .long x) (gd_nt hlg) hl') hp)⟩
  · cases h1
theorem sd_lstore {i : Nat} (d : decode P.1 pc = .ok (.lstore i, 2)) (hn : i + 1 < P.2.1) (h : Sd P ev (pc + 2) K) : Sd P ev pc (o_lst i K) := by
  intro L st M r h1
  unfold o_lst at h1
  split at h1
  · rename_i x r
    obtain ⟨hlg, h1⟩ := gd_sp h1
    obtain ⟨hm, hw⟩ := h _ _ _ _ h1
    exact ⟨hm, fun X F h2 => by
      obtain ⟨g, p, l, e, R, s, m, args, below, meth, c, rr, n0, s0⟩ := X
      have hw := hw _ F h2
      obtain ⟨hOk, hW0, hz, hq, hx, hb, hml, hown, hts, hr, hlk, hnm, hK, hfr, hlo, hRc, hRs, hhyp⟩ := F
      exact fun ls H locs hl hp => lv_lstore hx hb d hl (by rw [hml]; exact hn) rfl (fun ls' hl' => hw ls' H locs (ex_store2 (v := .long x) (gd_nt hlg) hl') hp)⟩
  · cases h1
theorem sd_iinc {i : Nat} {n : Int} {v : Int32} (d : decode P.1 pc = .ok (.iinc i n, 3)) (hv : Int32.ofInt n = v) (hn : i < P.2.1) (h : Sd P ev (pc + 3) K) : Sd P ev pc (o_inc i v K) := by
  intro L st M r h1
  unfold o_inc at h1
  split at h1
  · rename_i x hL
    · obtain ⟨hlg, h1⟩ := gd_sp h1
      subst hv
      obtain ⟨hm, hw⟩ := h _ _ _ _ h1
      exact ⟨hm, fun X F h2 => by
      obtain ⟨g, p, l, e, R, s, m, args, below, meth, c, rr, n0, s0⟩ := X
      have hw := hw _ F h2
      obtain ⟨hOk, hW0, hz, hq, hx, hb, hml, hown, hts, hr, hlk, hnm, hK, hfr, hlo, hRc, hRs, hhyp⟩ := F
      exact fun ls H locs hl hp => by
        obtain ⟨k, hk⟩ := List.getElem?_of_mem (ex_pr_mem (g := g) (q := (i, .int x)) |>.mpr ⟨.int x, hL, rfl⟩)
        exact lv_iinc hx hb d hl hk rfl (by rw [hml]; exact hn) rfl (fun ls' hl' => hw ls' H locs (ex_store1 (v := .int _) (gd_nt hlg) hl') hp)⟩
  · cases h1
theorem sd_iadd (d : decode P.1 pc = .ok (.iadd, 1)) (h : Sd P ev (pc + 1) K) : Sd P ev pc (o_i2 (fun x y => x + y) K) := by
  intro L st M r h1
  unfold o_i2 at h1
  split at h1
  · obtain ⟨hm, hw⟩ := h _ _ _ _ h1
    exact ⟨hm, fun X F h2 => by
      obtain ⟨g, p, l, e, R, s, m, args, below, meth, c, rr, n0, s0⟩ := X
      have hw := hw _ F h2
      obtain ⟨hOk, hW0, hz, hq, hx, hb, hml, hown, hts, hr, hlk, hnm, hK, hfr, hlo, hRc, hRs, hhyp⟩ := F
      exact fun ls H locs hl hp => lv_iadd hx hb d (hw ls H locs hl hp)⟩
  · cases h1
theorem sd_isub (d : decode P.1 pc = .ok (.isub, 1)) (h : Sd P ev (pc + 1) K) : Sd P ev pc (o_i2 (fun x y => x - y) K) := by
  intro L st M r h1
  unfold o_i2 at h1
  split at h1
  · obtain ⟨hm, hw⟩ := h _ _ _ _ h1
    exact ⟨hm, fun X F h2 => by
      obtain ⟨g, p, l, e, R, s, m, args, below, meth, c, rr, n0, s0⟩ := X
      have hw := hw _ F h2
      obtain ⟨hOk, hW0, hz, hq, hx, hb, hml, hown, hts, hr, hlk, hnm, hK, hfr, hlo, hRc, hRs, hhyp⟩ := F
      exact fun ls H locs hl hp => lv_isub hx hb d (hw ls H locs hl hp)⟩
  · cases h1
theorem sd_imul (d : decode P.1 pc = .ok (.imul, 1)) (h : Sd P ev (pc + 1) K) : Sd P ev pc (o_i2 (fun x y => x * y) K) := by
  intro L st M r h1
  unfold o_i2 at h1
  split at h1
  · obtain ⟨hm, hw⟩ := h _ _ _ _ h1
    exact ⟨hm, fun X F h2 => by
      obtain ⟨g, p, l, e, R, s, m, args, below, meth, c, rr, n0, s0⟩ := X
      have hw := hw _ F h2
      obtain ⟨hOk, hW0, hz, hq, hx, hb, hml, hown, hts, hr, hlk, hnm, hK, hfr, hlo, hRc, hRs, hhyp⟩ := F
      exact fun ls H locs hl hp => lv_imul hx hb d (hw ls H locs hl hp)⟩
  · cases h1
theorem sd_iand (d : decode P.1 pc = .ok (.iand, 1)) (h : Sd P ev (pc + 1) K) : Sd P ev pc (o_i2 (fun x y => x &&& y) K) := by
  intro L st M r h1
  unfold o_i2 at h1
  split at h1
  · obtain ⟨hm, hw⟩ := h _ _ _ _ h1
    exact ⟨hm, fun X F h2 => by
      obtain ⟨g, p, l, e, R, s, m, args, below, meth, c, rr, n0, s0⟩ := X
      have hw := hw _ F h2
      obtain ⟨hOk, hW0, hz, hq, hx, hb, hml, hown, hts, hr, hlk, hnm, hK, hfr, hlo, hRc, hRs, hhyp⟩ := F
      exact fun ls H locs hl hp => lv_iand hx hb d (hw ls H locs hl hp)⟩
  · cases h1
theorem sd_ior (d : decode P.1 pc = .ok (.ior, 1)) (h : Sd P ev (pc + 1) K) : Sd P ev pc (o_i2 (fun x y => x ||| y) K) := by
  intro L st M r h1
  unfold o_i2 at h1
  split at h1
  · obtain ⟨hm, hw⟩ := h _ _ _ _ h1
    exact ⟨hm, fun X F h2 => by
      obtain ⟨g, p, l, e, R, s, m, args, below, meth, c, rr, n0, s0⟩ := X
      have hw := hw _ F h2
      obtain ⟨hOk, hW0, hz, hq, hx, hb, hml, hown, hts, hr, hlk, hnm, hK, hfr, hlo, hRc, hRs, hhyp⟩ := F
      exact fun ls H locs hl hp => lv_ior hx hb d (hw ls H locs hl hp)⟩
  · cases h1
theorem sd_ixor (d : decode P.1 pc = .ok (.ixor, 1)) (h : Sd P ev (pc + 1) K) : Sd P ev pc (o_i2 (fun x y => x ^^^ y) K) := by
  intro L st M r h1
  unfold o_i2 at h1
  split at h1
  · obtain ⟨hm, hw⟩ := h _ _ _ _ h1
    exact ⟨hm, fun X F h2 => by
      obtain ⟨g, p, l, e, R, s, m, args, below, meth, c, rr, n0, s0⟩ := X
      have hw := hw _ F h2
      obtain ⟨hOk, hW0, hz, hq, hx, hb, hml, hown, hts, hr, hlk, hnm, hK, hfr, hlo, hRc, hRs, hhyp⟩ := F
      exact fun ls H locs hl hp => lv_ixor hx hb d (hw ls H locs hl hp)⟩
  · cases h1
theorem sd_ishl (d : decode P.1 pc = .ok (.ishl, 1)) (h : Sd P ev (pc + 1) K) : Sd P ev pc (o_i2 (fun x y => x <<< (y &&& 31)) K) := by
  intro L st M r h1
  unfold o_i2 at h1
  split at h1
  · obtain ⟨hm, hw⟩ := h _ _ _ _ h1
    exact ⟨hm, fun X F h2 => by
      obtain ⟨g, p, l, e, R, s, m, args, below, meth, c, rr, n0, s0⟩ := X
      have hw := hw _ F h2
      obtain ⟨hOk, hW0, hz, hq, hx, hb, hml, hown, hts, hr, hlk, hnm, hK, hfr, hlo, hRc, hRs, hhyp⟩ := F
      exact fun ls H locs hl hp => lv_ishl hx hb d (hw ls H locs hl hp)⟩
  · cases h1
theorem sd_ishr (d : decode P.1 pc = .ok (.ishr, 1)) (h : Sd P ev (pc + 1) K) : Sd P ev pc (o_i2 (fun x y => x >>> (y &&& 31)) K) := by
  intro L st M r h1
  unfold o_i2 at h1
  split at h1
  · obtain ⟨hm, hw⟩ := h _ _ _ _ h1
    exact ⟨hm, fun X F h2 => by
      obtain ⟨g, p, l, e, R, s, m, args, below, meth, c, rr, n0, s0⟩ := X
      have hw := hw _ F h2
      obtain ⟨hOk, hW0, hz, hq, hx, hb, hml, hown, hts, hr, hlk, hnm, hK, hfr, hlo, hRc, hRs, hhyp⟩ := F
      exact fun ls H locs hl hp => lv_ishr hx hb d (hw ls H locs hl hp)⟩
  · cases h1
theorem sd_iushr (d : decode P.1 pc = .ok (.iushr, 1)) (h : Sd P ev (pc + 1) K) : Sd P ev pc (o_i2 (fun x y => (x.toUInt32 >>> (y.toUInt32 &&& Int32.toUInt32 31)).toInt32) K) := by
  intro L st M r h1
  unfold o_i2 at h1
  split at h1
  · obtain ⟨hm, hw⟩ := h _ _ _ _ h1
    exact ⟨hm, fun X F h2 => by
      obtain ⟨g, p, l, e, R, s, m, args, below, meth, c, rr, n0, s0⟩ := X
      have hw := hw _ F h2
      obtain ⟨hOk, hW0, hz, hq, hx, hb, hml, hown, hts, hr, hlk, hnm, hK, hfr, hlo, hRc, hRs, hhyp⟩ := F
      exact fun ls H locs hl hp => lv_iushr hx hb d rfl (hw ls H locs hl hp)⟩
  · cases h1
theorem sd_idiv (d : decode P.1 pc = .ok (.idiv, 1)) (h : Sd P ev (pc + 1) K) : Sd P ev pc (o_idv K) := by
  intro L st M r h1
  unfold o_idv at h1
  split at h1
  · split at h1
    · cases h1
    · rename_i hne
      obtain ⟨hm, hw⟩ := h _ _ _ _ h1
      exact ⟨hm, fun X F h2 => by
      obtain ⟨g, p, l, e, R, s, m, args, below, meth, c, rr, n0, s0⟩ := X
      have hw := hw _ F h2
      obtain ⟨hOk, hW0, hz, hq, hx, hb, hml, hown, hts, hr, hlk, hnm, hK, hfr, hlo, hRc, hRs, hhyp⟩ := F
      exact fun ls H locs hl hp => lv_idiv hx hb d hne (hw ls H locs hl hp)⟩
  · cases h1
theorem sd_irem (d : decode P.1 pc = .ok (.irem, 1)) (h : Sd P ev (pc + 1) K) : Sd P ev pc (o_irm K) := by
  intro L st M r h1
  unfold o_irm at h1
  split at h1
  · split at h1
    · cases h1
    · rename_i hne
      obtain ⟨hm, hw⟩ := h _ _ _ _ h1
      exact ⟨hm, fun X F h2 => by
      obtain ⟨g, p, l, e, R, s, m, args, below, meth, c, rr, n0, s0⟩ := X
      have hw := hw _ F h2
      obtain ⟨hOk, hW0, hz, hq, hx, hb, hml, hown, hts, hr, hlk, hnm, hK, hfr, hlo, hRc, hRs, hhyp⟩ := F
      exact fun ls H locs hl hp => lv_irem hx hb d hne (hw ls H locs hl hp)⟩
  · cases h1
theorem sd_ldiv (d : decode P.1 pc = .ok (.ldiv, 1)) (h : Sd P ev (pc + 1) K) : Sd P ev pc (o_ldv K) := by
  intro L st M r h1
  unfold o_ldv at h1
  split at h1
  · split at h1
    · cases h1
    · rename_i hne
      obtain ⟨hm, hw⟩ := h _ _ _ _ h1
      exact ⟨hm, fun X F h2 => by
      obtain ⟨g, p, l, e, R, s, m, args, below, meth, c, rr, n0, s0⟩ := X
      have hw := hw _ F h2
      obtain ⟨hOk, hW0, hz, hq, hx, hb, hml, hown, hts, hr, hlk, hnm, hK, hfr, hlo, hRc, hRs, hhyp⟩ := F
      exact fun ls H locs hl hp => lv_ldiv hx hb d hne (hw ls H locs hl hp)⟩
  · cases h1
theorem sd_lrem (d : decode P.1 pc = .ok (.lrem, 1)) (h : Sd P ev (pc + 1) K) : Sd P ev pc (o_lrm K) := by
  intro L st M r h1
  unfold o_lrm at h1
  split at h1
  · split at h1
    · cases h1
    · rename_i hne
      obtain ⟨hm, hw⟩ := h _ _ _ _ h1
      exact ⟨hm, fun X F h2 => by
      obtain ⟨g, p, l, e, R, s, m, args, below, meth, c, rr, n0, s0⟩ := X
      have hw := hw _ F h2
      obtain ⟨hOk, hW0, hz, hq, hx, hb, hml, hown, hts, hr, hlk, hnm, hK, hfr, hlo, hRc, hRs, hhyp⟩ := F
      exact fun ls H locs hl hp => lv_lrem hx hb d hne (hw ls H locs hl hp)⟩
  · cases h1
theorem sd_ladd (d : decode P.1 pc = .ok (.ladd, 1)) (h : Sd P ev (pc + 1) K) : Sd P ev pc (o_l2 (fun x y => x + y) K) := by
  intro L st M r h1
  unfold o_l2 at h1
  split at h1
  · obtain ⟨hm, hw⟩ := h _ _ _ _ h1
    exact ⟨hm, fun X F h2 => by
      obtain ⟨g, p, l, e, R, s, m, args, below, meth, c, rr, n0, s0⟩ := X
      have hw := hw _ F h2
      obtain ⟨hOk, hW0, hz, hq, hx, hb, hml, hown, hts, hr, hlk, hnm, hK, hfr, hlo, hRc, hRs, hhyp⟩ := F
      exact fun ls H locs hl hp => lv_ladd hx hb d (hw ls H locs hl hp)⟩
  · cases h1
theorem sd_lsub (d : decode P.1 pc = .ok (.lsub, 1)) (h : Sd P ev (pc + 1) K) : Sd P ev pc (o_l2 (fun x y => x - y) K) := by
  intro L st M r h1
  unfold o_l2 at h1
  split at h1
  · obtain ⟨hm, hw⟩ := h _ _ _ _ h1
    exact ⟨hm, fun X F h2 => by
      obtain ⟨g, p, l, e, R, s, m, args, below, meth, c, rr, n0, s0⟩ := X
      have hw := hw _ F h2
      obtain ⟨hOk, hW0, hz, hq, hx, hb, hml, hown, hts, hr, hlk, hnm, hK, hfr, hlo, hRc, hRs, hhyp⟩ := F
      exact fun ls H locs hl hp => lv_lsub hx hb d (hw ls H locs hl hp)⟩
  · cases h1
theorem sd_lmul (d : decode P.1 pc = .ok (.lmul, 1)) (h : Sd P ev (pc + 1) K) : Sd P ev pc (o_l2 (fun x y => x * y) K) := by
  intro L st M r h1
  unfold o_l2 at h1
  split at h1
  · obtain ⟨hm, hw⟩ := h _ _ _ _ h1
    exact ⟨hm, fun X F h2 => by
      obtain ⟨g, p, l, e, R, s, m, args, below, meth, c, rr, n0, s0⟩ := X
      have hw := hw _ F h2
      obtain ⟨hOk, hW0, hz, hq, hx, hb, hml, hown, hts, hr, hlk, hnm, hK, hfr, hlo, hRc, hRs, hhyp⟩ := F
      exact fun ls H locs hl hp => lv_lmul hx hb d (hw ls H locs hl hp)⟩
  · cases h1
theorem sd_ineg (d : decode P.1 pc = .ok (.ineg, 1)) (h : Sd P ev (pc + 1) K) : Sd P ev pc (o_i1 (fun x => -x) K) := by
  intro L st M r h1
  unfold o_i1 at h1
  split at h1
  · obtain ⟨hm, hw⟩ := h _ _ _ _ h1
    exact ⟨hm, fun X F h2 => by
      obtain ⟨g, p, l, e, R, s, m, args, below, meth, c, rr, n0, s0⟩ := X
      have hw := hw _ F h2
      obtain ⟨hOk, hW0, hz, hq, hx, hb, hml, hown, hts, hr, hlk, hnm, hK, hfr, hlo, hRc, hRs, hhyp⟩ := F
      exact fun ls H locs hl hp => lv_ineg hx hb d (hw ls H locs hl hp)⟩
  · cases h1
theorem sd_i2b (d : decode P.1 pc = .ok (.i2b, 1)) (h : Sd P ev (pc + 1) K) : Sd P ev pc (o_i1 (fun x => x.toInt8.toInt32) K) := by
  intro L st M r h1
  unfold o_i1 at h1
  split at h1
  · obtain ⟨hm, hw⟩ := h _ _ _ _ h1
    exact ⟨hm, fun X F h2 => by
      obtain ⟨g, p, l, e, R, s, m, args, below, meth, c, rr, n0, s0⟩ := X
      have hw := hw _ F h2
      obtain ⟨hOk, hW0, hz, hq, hx, hb, hml, hown, hts, hr, hlk, hnm, hK, hfr, hlo, hRc, hRs, hhyp⟩ := F
      exact fun ls H locs hl hp => lv_i2b hx hb d rfl (hw ls H locs hl hp)⟩
  · cases h1
theorem sd_i2s (d : decode P.1 pc = .ok (.i2s, 1)) (h : Sd P ev (pc + 1) K) : Sd P ev pc (o_i1 (fun x => x.toInt16.toInt32) K) := by
  intro L st M r h1
  unfold o_i1 at h1
  split at h1
  · obtain ⟨hm, hw⟩ := h _ _ _ _ h1
    exact ⟨hm, fun X F h2 => by
      obtain ⟨g, p, l, e, R, s, m, args, below, meth, c, rr, n0, s0⟩ := X
      have hw := hw _ F h2
      obtain ⟨hOk, hW0, hz, hq, hx, hb, hml, hown, hts, hr, hlk, hnm, hK, hfr, hlo, hRc, hRs, hhyp⟩ := F
      exact fun ls H locs hl hp => lv_i2s hx hb d rfl (hw ls H locs hl hp)⟩
  · cases h1
theorem sd_i2l (d : decode P.1 pc = .ok (.i2l, 1)) (h : Sd P ev (pc + 1) K) : Sd P ev pc (o_i2l K) := by
  intro L st M r h1
  unfold o_i2l at h1
  split at h1
  · obtain ⟨hm, hw⟩ := h _ _ _ _ h1
    exact ⟨hm, fun X F h2 => by
      obtain ⟨g, p, l, e, R, s, m, args, below, meth, c, rr, n0, s0⟩ := X
      have hw := hw _ F h2
      obtain ⟨hOk, hW0, hz, hq, hx, hb, hml, hown, hts, hr, hlk, hnm, hK, hfr, hlo, hRc, hRs, hhyp⟩ := F
      exact fun ls H locs hl hp => lv_i2l hx hb d rfl (hw ls H locs hl hp)⟩
  · cases h1
theorem sd_dup (d : decode P.1 pc = .ok (.dup, 1)) (h : Sd P ev (pc + 1) K) : Sd P ev pc (o_dup K) := by
  intro L st M r h1
  unfold o_dup at h1
  split at h1
  · obtain ⟨hm, hw⟩ := h _ _ _ _ h1
    exact ⟨hm, fun X F h2 => by
      obtain ⟨g, p, l, e, R, s, m, args, below, meth, c, rr, n0, s0⟩ := X
      have hw := hw _ F h2
      obtain ⟨hOk, hW0, hz, hq, hx, hb, hml, hown, hts, hr, hlk, hnm, hK, hfr, hlo, hRc, hRs, hhyp⟩ := F
      exact fun ls H locs hl hp => lv_dup hx hb d rfl (hw ls H locs hl hp)⟩
  · obtain ⟨hm, hw⟩ := h _ _ _ _ h1
    exact ⟨hm, fun X F h2 => by
      obtain ⟨g, p, l, e, R, s, m, args, below, meth, c, rr, n0, s0⟩ := X
      have hw := hw _ F h2
      obtain ⟨hOk, hW0, hz, hq, hx, hb, hml, hown, hts, hr, hlk, hnm, hK, hfr, hlo, hRc, hRs, hhyp⟩ := F
      exact fun ls H locs hl hp => lv_dup hx hb d rfl (hw ls H locs hl hp)⟩
  · cases h1
theorem sd_pop (d : decode P.1 pc = .ok (.pop, 1)) (h : Sd P ev (pc + 1) K) : Sd P ev pc (o_pop K) := by
  intro L st M r h1
  unfold o_pop at h1
  split at h1
  · obtain ⟨hm, hw⟩ := h _ _ _ _ h1
    exact ⟨hm, fun X F h2 => by
      obtain ⟨g, p, l, e, R, s, m, args, below, meth, c, rr, n0, s0⟩ := X
      have hw := hw _ F h2
      obtain ⟨hOk, hW0, hz, hq, hx, hb, hml, hown, hts, hr, hlk, hnm, hK, hfr, hlo, hRc, hRs, hhyp⟩ := F
      exact fun ls H locs hl hp => lv_pop hx hb d rfl (hw ls H locs hl hp)⟩
  · cases h1
theorem sd_dup2 (d : decode P.1 pc = .ok (.dup2, 1)) (h : Sd P ev (pc + 1) K) : Sd P ev pc (o_du2 K) := by
  intro L st M r h1
  unfold o_du2 at h1
  split at h1
  · obtain ⟨hm, hw⟩ := h _ _ _ _ h1
    exact ⟨hm, fun X F h2 => by
      obtain ⟨g, p, l, e, R, s, m, args, below, meth, c, rr, n0, s0⟩ := X
      have hw := hw _ F h2
      obtain ⟨hOk, hW0, hz, hq, hx, hb, hml, hown, hts, hr, hlk, hnm, hK, hfr, hlo, hRc, hRs, hhyp⟩ := F
      exact fun ls H locs hl hp => lv_dup2_11 hx hb d rfl rfl (hw ls H locs hl hp)⟩
  · cases h1
theorem sd_zeq {off : Int} {tgt : Nat} (d : decode P.1 pc = .ok (.ifCond .eq off, 3)) (ht : (pc : Int) + off = (tgt : Int)) (h : Sd P ev tgt K) (h0 : Sd P ev (pc + 3) K2) : Sd P ev pc (o_zeq K K2) := by
  intro L st M r h1
  unfold o_zeq at h1
  split at h1
  · split at h1
    · rename_i hc
      obtain ⟨hm, hw⟩ := h _ _ _ _ h1
      exact ⟨hm, fun X F h2 => by
      obtain ⟨g, p, l, e, R, s, m, args, below, meth, c, rr, n0, s0⟩ := X
      have hw := hw _ F h2
      obtain ⟨hOk, hW0, hz, hq, hx, hb, hml, hown, hts, hr, hlk, hnm, hK, hfr, hlo, hRc, hRs, hhyp⟩ := F
      exact fun ls H locs hl hp => lv_if_eq hx hb d ht (fun _ => hw ls H locs hl hp) (fun hn => absurd hc hn)⟩
    · rename_i hc
      obtain ⟨hm, hw⟩ := h0 _ _ _ _ h1
      exact ⟨hm, fun X F h2 => by
      obtain ⟨g, p, l, e, R, s, m, args, below, meth, c, rr, n0, s0⟩ := X
      have hw := hw _ F h2
      obtain ⟨hOk, hW0, hz, hq, hx, hb, hml, hown, hts, hr, hlk, hnm, hK, hfr, hlo, hRc, hRs, hhyp⟩ := F
      exact fun ls H locs hl hp => lv_if_eq hx hb d ht (fun hn => absurd hn hc) (fun _ => hw ls H locs hl hp)⟩
  · cases h1
theorem sd_ceq {off : Int} {tgt : Nat} (d : decode P.1 pc = .ok (.if_icmp .eq off, 3)) (ht : (pc : Int) + off = (tgt : Int)) (h : Sd P ev tgt K) (h0 : Sd P ev (pc + 3) K2) : Sd P ev pc (o_ceq K K2) := by
  intro L st M r h1
  unfold o_ceq at h1
  split at h1
  · split at h1
    · rename_i hc
      obtain ⟨hm, hw⟩ := h _ _ _ _ h1
      exact ⟨hm, fun X F h2 => by
      obtain ⟨g, p, l, e, R, s, m, args, below, meth, c, rr, n0, s0⟩ := X
      have hw := hw _ F h2
      obtain ⟨hOk, hW0, hz, hq, hx, hb, hml, hown, hts, hr, hlk, hnm, hK, hfr, hlo, hRc, hRs, hhyp⟩ := F
      exact fun ls H locs hl hp => lv_icmp_eq hx hb d ht (fun _ => hw ls H locs hl hp) (fun hn => absurd hc hn)⟩
    · rename_i hc
      obtain ⟨hm, hw⟩ := h0 _ _ _ _ h1
      exact ⟨hm, fun X F h2 => by
      obtain ⟨g, p, l, e, R, s, m, args, below, meth, c, rr, n0, s0⟩ := X
      have hw := hw _ F h2
      obtain ⟨hOk, hW0, hz, hq, hx, hb, hml, hown, hts, hr, hlk, hnm, hK, hfr, hlo, hRc, hRs, hhyp⟩ := F
      exact fun ls H locs hl hp => lv_icmp_eq hx hb d ht (fun hn => absurd hn hc) (fun _ => hw ls H locs hl hp)⟩
  · cases h1
theorem sd_zne {off : Int} {tgt : Nat} (d : decode P.1 pc = .ok (.ifCond .ne off, 3)) (ht : (pc : Int) + off = (tgt : Int)) (h : Sd P ev tgt K) (h0 : Sd P ev (pc + 3) K2) : Sd P ev pc (o_zne K K2) := by
  intro L st M r h1
  unfold o_zne at h1
  split at h1
  · split at h1
    · rename_i hc
      obtain ⟨hm, hw⟩ := h0 _ _ _ _ h1
      exact ⟨hm, fun X F h2 => by
      obtain ⟨g, p, l, e, R, s, m, args, below, meth, c, rr, n0, s0⟩ := X
      have hw := hw _ F h2
      obtain ⟨hOk, hW0, hz, hq, hx, hb, hml, hown, hts, hr, hlk, hnm, hK, hfr, hlo, hRc, hRs, hhyp⟩ := F
      exact fun ls H locs hl hp => lv_if_ne hx hb d ht (fun hn => absurd hc hn) (fun _ => hw ls H locs hl hp)⟩
    · rename_i hc
      obtain ⟨hm, hw⟩ := h _ _ _ _ h1
      exact ⟨hm, fun X F h2 => by
      obtain ⟨g, p, l, e, R, s, m, args, below, meth, c, rr, n0, s0⟩ := X
      have hw := hw _ F h2
      obtain ⟨hOk, hW0, hz, hq, hx, hb, hml, hown, hts, hr, hlk, hnm, hK, hfr, hlo, hRc, hRs, hhyp⟩ := F
      exact fun ls H locs hl hp => lv_if_ne hx hb d ht (fun _ => hw ls H locs hl hp) (fun hn => absurd hn hc)⟩
  · cases h1
theorem sd_cne {off : Int} {tgt : Nat} (d : decode P.1 pc = .ok (.if_icmp .ne off, 3)) (ht : (pc : Int) + off = (tgt : Int)) (h : Sd P ev tgt K) (h0 : Sd P ev (pc + 3) K2) : Sd P ev pc (o_cne K K2) := by
  intro L st M r h1
  unfold o_cne at h1
  split at h1
  · split at h1
    · rename_i hc
      obtain ⟨hm, hw⟩ := h0 _ _ _ _ h1
      exact ⟨hm, fun X F h2 => by
      obtain ⟨g, p, l, e, R, s, m, args, below, meth, c, rr, n0, s0⟩ := X
      have hw := hw _ F h2
      obtain ⟨hOk, hW0, hz, hq, hx, hb, hml, hown, hts, hr, hlk, hnm, hK, hfr, hlo, hRc, hRs, hhyp⟩ := F
      exact fun ls H locs hl hp => lv_icmp_ne hx hb d ht (fun hn => absurd hc hn) (fun _ => hw ls H locs hl hp)⟩
    · rename_i hc
      obtain ⟨hm, hw⟩ := h _ _ _ _ h1
      exact ⟨hm, fun X F h2 => by
      obtain ⟨g, p, l, e, R, s, m, args, below, meth, c, rr, n0, s0⟩ := X
      have hw := hw _ F h2
      obtain ⟨hOk, hW0, hz, hq, hx, hb, hml, hown, hts, hr, hlk, hnm, hK, hfr, hlo, hRc, hRs, hhyp⟩ := F
      exact fun ls H locs hl hp => lv_icmp_ne hx hb d ht (fun _ => hw ls H locs hl hp) (fun hn => absurd hn hc)⟩
  · cases h1
theorem sd_zlt {off : Int} {tgt : Nat} (d : decode P.1 pc = .ok (.ifCond .lt off, 3)) (ht : (pc : Int) + off = (tgt : Int)) (h : Sd P ev tgt K) (h0 : Sd P ev (pc + 3) K2) : Sd P ev pc (o_zlt K K2) := by
  intro L st M r h1
  unfold o_zlt at h1
  split at h1
  · split at h1
    · rename_i hc
      obtain ⟨hm, hw⟩ := h _ _ _ _ h1
      exact ⟨hm, fun X F h2 => by
      obtain ⟨g, p, l, e, R, s, m, args, below, meth, c, rr, n0, s0⟩ := X
      have hw := hw _ F h2
      obtain ⟨hOk, hW0, hz, hq, hx, hb, hml, hown, hts, hr, hlk, hnm, hK, hfr, hlo, hRc, hRs, hhyp⟩ := F
      exact fun ls H locs hl hp => lv_if_lt hx hb d ht (fun _ => hw ls H locs hl hp) (fun hn => absurd hc hn)⟩
    · rename_i hc
      obtain ⟨hm, hw⟩ := h0 _ _ _ _ h1
      exact ⟨hm, fun X F h2 => by
      obtain ⟨g, p, l, e, R, s, m, args, below, meth, c, rr, n0, s0⟩ := X
      have hw := hw _ F h2
      obtain ⟨hOk, hW0, hz, hq, hx, hb, hml, hown, hts, hr, hlk, hnm, hK, hfr, hlo, hRc, hRs, hhyp⟩ := F
      exact fun ls H locs hl hp => lv_if_lt hx hb d ht (fun hn => absurd hn hc) (fun _ => hw ls H locs hl hp)⟩
  · cases h1
theorem sd_clt {off : Int} {tgt : Nat} (d : decode P.1 pc = .ok (.if_icmp .lt off, 3)) (ht : (pc : Int) + off = (tgt : Int)) (h : Sd P ev tgt K) (h0 : Sd P ev (pc + 3) K2) : Sd P ev pc (o_clt K K2) := by
  intro L st M r h1
  unfold o_clt at h1
  split at h1
  · split at h1
    · rename_i hc
      obtain ⟨hm, hw⟩ := h _ _ _ _ h1
      exact ⟨hm, fun X F h2 => by
      obtain ⟨g, p, l, e, R, s, m, args, below, meth, c, rr, n0, s0⟩ := X
      have hw := hw _ F h2
      obtain ⟨hOk, hW0, hz, hq, hx, hb, hml, hown, hts, hr, hlk, hnm, hK, hfr, hlo, hRc, hRs, hhyp⟩ := F
      exact fun ls H locs hl hp => lv_icmp_lt hx hb d ht (fun _ => hw ls H locs hl hp) (fun hn => absurd hc hn)⟩
    · rename_i hc
      obtain ⟨hm, hw⟩ := h0 _ _ _ _ h1
      exact ⟨hm, fun X F h2 => by
      obtain ⟨g, p, l, e, R, s, m, args, below, meth, c, rr, n0, s0⟩ := X
      have hw := hw _ F h2
      obtain ⟨hOk, hW0, hz, hq, hx, hb, hml, hown, hts, hr, hlk, hnm, hK, hfr, hlo, hRc, hRs, hhyp⟩ := F
      exact fun ls H locs hl hp => lv_icmp_lt hx hb d ht (fun hn => absurd hn hc) (fun _ => hw ls H locs hl hp)⟩
  · cases h1
theorem sd_zge {off : Int} {tgt : Nat} (d : decode P.1 pc = .ok (.ifCond .ge off, 3)) (ht : (pc : Int) + off = (tgt : Int)) (h : Sd P ev tgt K) (h0 : Sd P ev (pc + 3) K2) : Sd P ev pc (o_zge K K2) := by
  intro L st M r h1
  unfold o_zge at h1
  split at h1
  · split at h1
    · rename_i hc
      obtain ⟨hm, hw⟩ := h _ _ _ _ h1
      exact ⟨hm, fun X F h2 => by
      obtain ⟨g, p, l, e, R, s, m, args, below, meth, c, rr, n0, s0⟩ := X
      have hw := hw _ F h2
      obtain ⟨hOk, hW0, hz, hq, hx, hb, hml, hown, hts, hr, hlk, hnm, hK, hfr, hlo, hRc, hRs, hhyp⟩ := F
      exact fun ls H locs hl hp => lv_if_ge hx hb d ht (fun _ => hw ls H locs hl hp) (fun hn => absurd hc hn)⟩
    · rename_i hc
      obtain ⟨hm, hw⟩ := h0 _ _ _ _ h1
      exact ⟨hm, fun X F h2 => by
      obtain ⟨g, p, l, e, R, s, m, args, below, meth, c, rr, n0, s0⟩ := X
      have hw := hw _ F h2
      obtain ⟨hOk, hW0, hz, hq, hx, hb, hml, hown, hts, hr, hlk, hnm, hK, hfr, hlo, hRc, hRs, hhyp⟩ := F
      exact fun ls H locs hl hp => lv_if_ge hx hb d ht (fun hn => absurd hn hc) (fun _ => hw ls H locs hl hp)⟩
  · cases h1
theorem sd_cge {off : Int} {tgt : Nat} (d : decode P.1 pc = .ok (.if_icmp .ge off, 3)) (ht : (pc : Int) + off = (tgt : Int)) (h : Sd P ev tgt K) (h0 : Sd P ev (pc + 3) K2) : Sd P ev pc (o_cge K K2) := by
  intro L st M r h1
  unfold o_cge at h1
  split at h1
  · split at h1
    · rename_i hc
      obtain ⟨hm, hw⟩ := h _ _ _ _ h1
      exact ⟨hm, fun X F h2 => by
      obtain ⟨g, p, l, e, R, s, m, args, below, meth, c, rr, n0, s0⟩ := X
      have hw := hw _ F h2
      obtain ⟨hOk, hW0, hz, hq, hx, hb, hml, hown, hts, hr, hlk, hnm, hK, hfr, hlo, hRc, hRs, hhyp⟩ := F
      exact fun ls H locs hl hp => lv_icmp_ge hx hb d ht (fun _ => hw ls H locs hl hp) (fun hn => absurd hc hn)⟩
    · rename_i hc
      obtain ⟨hm, hw⟩ := h0 _ _ _ _ h1
      exact ⟨hm, fun X F h2 => by
      obtain ⟨g, p, l, e, R, s, m, args, below, meth, c, rr, n0, s0⟩ := X
      have hw := hw _ F h2
      obtain ⟨hOk, hW0, hz, hq, hx, hb, hml, hown, hts, hr, hlk, hnm, hK, hfr, hlo, hRc, hRs, hhyp⟩ := F
      exact fun ls H locs hl hp => lv_icmp_ge hx hb d ht (fun hn => absurd hn hc) (fun _ => hw ls H locs hl hp)⟩
  · cases h1
theorem sd_zgt {off : Int} {tgt : Nat} (d : decode P.1 pc = .ok (.ifCond .gt off, 3)) (ht : (pc : Int) + off = (tgt : Int)) (h : Sd P ev tgt K) (h0 : Sd P ev (pc + 3) K2) : Sd P ev pc (o_zgt K K2) := by
  intro L st M r h1
  unfold o_zgt at h1
  split at h1
  · split at h1
    · rename_i hc
      obtain ⟨hm, hw⟩ := h _ _ _ _ h1
      exact ⟨hm, fun X F h2 => by
      obtain ⟨g, p, l, e, R, s, m, args, below, meth, c, rr, n0, s0⟩ := X
      have hw := hw _ F h2
      obtain ⟨hOk, hW0, hz, hq, hx, hb, hml, hown, hts, hr, hlk, hnm, hK, hfr, hlo, hRc, hRs, hhyp⟩ := F
      exact fun ls H locs hl hp => lv_if_gt hx hb d ht (fun _ => hw ls H locs hl hp) (fun hn => absurd hc hn)⟩
    · rename_i hc
      obtain ⟨hm, hw⟩ := h0 _ _ _ _ h1
      exact ⟨hm, fun X F h2 => by
      obtain ⟨g, p, l, e, R, s, m, args, below, meth, c, rr, n0, s0⟩ := X
      have hw := hw _ F h2
      obtain ⟨hOk, hW0, hz, hq, hx, hb, hml, hown, hts, hr, hlk, hnm, hK, hfr, hlo, hRc, hRs, hhyp⟩ := F
      exact fun ls H locs hl hp => lv_if_gt hx hb d ht (fun hn => absurd hn hc) (fun _ => hw ls H locs hl hp)⟩
  · cases h1
theorem sd_cgt {off : Int} {tgt : Nat} (d : decode P.1 pc = .ok (.if_icmp .gt off, 3)) (ht : (pc : Int) + off = (tgt : Int)) (h : Sd P ev tgt K) (h0 : Sd P ev (pc + 3) K2) : Sd P ev pc (o_cgt K K2) := by
  intro L st M r h1
  unfold o_cgt at h1
  split at h1
  · split at h1
    · rename_i hc
      obtain ⟨hm, hw⟩ := h _ _ _ _ h1
      exact ⟨hm, fun X F h2 => by
      obtain ⟨g, p, l, e, R, s, m, args, below, meth, c, rr, n0, s0⟩ := X
      have hw := hw _ F h2
      obtain ⟨hOk, hW0, hz, hq, hx, hb, hml, hown, hts, hr, hlk, hnm, hK, hfr, hlo, hRc, hRs, hhyp⟩ := F
      exact fun ls H locs hl hp => lv_icmp_gt hx hb d ht (fun _ => hw ls H locs hl hp) (fun hn => absurd hc hn)⟩
    · rename_i hc
      obtain ⟨hm, hw⟩ := h0 _ _ _ _ h1
      exact ⟨hm, fun X F h2 => by
      obtain ⟨g, p, l, e, R, s, m, args, below, meth, c, rr, n0, s0⟩ := X
      have hw := hw _ F h2
      obtain ⟨hOk, hW0, hz, hq, hx, hb, hml, hown, hts, hr, hlk, hnm, hK, hfr, hlo, hRc, hRs, hhyp⟩ := F
      exact fun ls H locs hl hp => lv_icmp_gt hx hb d ht (fun hn => absurd hn hc) (fun _ => hw ls H locs hl hp)⟩
  · cases h1
theorem sd_zle {off : Int} {tgt : Nat} (d : decode P.1 pc = .ok (.ifCond .le off, 3)) (ht : (pc : Int) + off = (tgt : Int)) (h : Sd P ev tgt K) (h0 : Sd P ev (pc + 3) K2) : Sd P ev pc (o_zle K K2) := by
  intro L st M r h1
  unfold o_zle at h1
  split at h1
  · split at h1
    · rename_i hc
      obtain ⟨hm, hw⟩ := h _ _ _ _ h1
      exact ⟨hm, fun X F h2 => by
      obtain ⟨g, p, l, e, R, s, m, args, below, meth, c, rr, n0, s0⟩ := X
      have hw := hw _ F h2
      obtain ⟨hOk, hW0, hz, hq, hx, hb, hml, hown, hts, hr, hlk, hnm, hK, hfr, hlo, hRc, hRs, hhyp⟩ := F
      exact fun ls H locs hl hp => lv_if_le hx hb d ht (fun _ => hw ls H locs hl hp) (fun hn => absurd hc hn)⟩
    · rename_i hc
      obtain ⟨hm, hw⟩ := h0 _ _ _ _ h1
      exact ⟨hm, fun X F h2 => by
      obtain ⟨g, p, l, e, R, s, m, args, below, meth, c, rr, n0, s0⟩ := X
      have hw := hw _ F h2
      obtain ⟨hOk, hW0, hz, hq, hx, hb, hml, hown, hts, hr, hlk, hnm, hK, hfr, hlo, hRc, hRs, hhyp⟩ := F
      exact fun ls H locs hl hp => lv_if_le hx hb d ht (fun hn => absurd hn hc) (fun _ => hw ls H locs hl hp)⟩
  · cases h1
theorem sd_cle {off : Int} {tgt : Nat} (d : decode P.1 pc = .ok (.if_icmp .le off, 3)) (ht : (pc : Int) + off = (tgt : Int)) (h : Sd P ev tgt K) (h0 : Sd P ev (pc + 3) K2) : Sd P ev pc (o_cle K K2) := by
  intro L st M r h1
  unfold o_cle at h1
  split at h1
  · split at h1
    · rename_i hc
      obtain ⟨hm, hw⟩ := h _ _ _ _ h1
      exact ⟨hm, fun X F h2 => by
      obtain ⟨g, p, l, e, R, s, m, args, below, meth, c, rr, n0, s0⟩ := X
      have hw := hw _ F h2
      obtain ⟨hOk, hW0, hz, hq, hx, hb, hml, hown, hts, hr, hlk, hnm, hK, hfr, hlo, hRc, hRs, hhyp⟩ := F
      exact fun ls H locs hl hp => lv_icmp_le hx hb d ht (fun _ => hw ls H locs hl hp) (fun hn => absurd hc hn)⟩
    · rename_i hc
      obtain ⟨hm, hw⟩ := h0 _ _ _ _ h1
      exact ⟨hm, fun X F h2 => by
      obtain ⟨g, p, l, e, R, s, m, args, below, meth, c, rr, n0, s0⟩ := X
      have hw := hw _ F h2
      obtain ⟨hOk, hW0, hz, hq, hx, hb, hml, hown, hts, hr, hlk, hnm, hK, hfr, hlo, hRc, hRs, hhyp⟩ := F
      exact fun ls H locs hl hp => lv_icmp_le hx hb d ht (fun hn => absurd hn hc) (fun _ => hw ls H locs hl hp)⟩
  · cases h1
theorem sd_goto {off : Int} {tgt : Nat} (d : decode P.1 pc = .ok (.goto off, 3)) (ht : (pc : Int) + off = (tgt : Int)) (h : Sd P ev tgt K) : Sd P ev pc K := by
  intro L st M r h1
  obtain ⟨hm, hw⟩ := h _ _ _ _ h1
  exact ⟨hm, fun X F h2 => by
      obtain ⟨g, p, l, e, R, s, m, args, below, meth, c, rr, n0, s0⟩ := X
      have hw := hw _ F h2
      obtain ⟨hOk, hW0, hz, hq, hx, hb, hml, hown, hts, hr, hlk, hnm, hK, hfr, hlo, hRc, hRs, hhyp⟩ := F
      exact fun ls H locs hl hp => lv_goto hx hb d ht (hw ls H locs hl hp)⟩
end RL
