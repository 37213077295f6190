/-! the law's function from its entry -/
theorem on_new {ρ : Type} {c n : Nat} {fs : List Value} {K : Kt ρ} {L : Lo} {st : List Value} {M : Hx} (hn : M.length = n) (h : n < 1000) : o_new c fs K L st M = K L (.ref n :: st) (M ++ [.inr (c, fs)]) := by
  subst hn
  exact if_pos h
theorem on_nc {ρ : Type} {f : Mt Unit} {b : Nat} {K : Kt ρ} {L : Lo} {M M2 : Hx} (h : f [.ref b] M = some ((), M2)) : o_nc 1 f K L [.ref b, .ref b] M = K L [.ref b] M2 := by
  show gd true (gd true ((f [.ref b] M).bind fun q => K L [.ref b] q.2)) = _
  rw [h]; rfl
theorem law_ch {f8 f9 : Mt Unit} {K : Kt Int32} {M1 M3 : Hx} {r : Int32 × Hx} {fs7 fs9 : List Value} (h8 : f8 [.ref 0] [.inr (7, fs7)] = some ((), M1)) (hl : M1.length = 78) (h9 : f9 [.ref 78] (M1 ++ [.inr (8, fs9)]) = some ((), M3)) (h : K [some (.ref 1022), some (.ref 0), some (.ref 78), some (.int 0)] [] M3 = some r) : (o_new 7 fs7 <| o_dup <| o_nc 1 f8 <| o_ast 1 <| o_new 8 fs9 <| o_dup <| o_nc 1 f9 <| o_ast 2 <| o_psh (.int 0) <| o_ist 3 <| K) [some (.ref 1022), none, none, none] [] [] = some r := by
  rw [on_new (n := 0) rfl (by decide)]
  show o_nc 1 f8 _ _ [.ref 0, .ref 0] [.inr (7, fs7)] = _
  rw [on_nc h8]
  show o_new 8 fs9 _ [some (.ref 1022), some (.ref 0), none, none] [] M1 = _
  rw [on_new hl (by decide)]
  show o_nc 1 f9 _ _ [.ref 78, .ref 78] (M1 ++ [.inr (8, fs9)]) = _
  rw [on_nc h9]
  exact h
theorem law_0 {N : Nat} {xs : Nat → Int32} {r : Int32 × Hx} (h : FL_law_18 N xs fu 1022 0 78 (nI 0) iM3 = some r) : bL_law_0 N xs [some (.ref 1022), none, none, none] [] [] = some r := by
  have h8 := i_8e
  have h9 := i_9e
  unfold FX8_init iM0 at h8
  unfold FX9_init iM2 at h9
  unfold FL_law_18 at h
  unfold bL_law_0
  exact law_ch h8 i_8l h9 h
theorem ln_mk (g : Gg) : (mk g).length = 94 := by
  unfold mk
  rw [List.length_mapIdx]; rfl
theorem sz_c {c : Nat} {t : Tm} (X : Tm) (hX : tmpl[c]? = some X) (hb : ∀ r, ex_sz (X r) ≤ 2112) (h : tmpl[c]? = some t) (r : Nat → Int32) : ex_sz (t r) ≤ 2112 := by
  rw [hX] at h
  cases h
  exact hb r
theorem sz_t : ∀ (c : Nat) (t : Tm), tmpl[c]? = some t → ∀ r, ex_sz (t r) ≤ 2112
  | 0, _, h, r => sz_c _ rfl (fun _ => Nat.le_of_ble_eq_true rfl) h r
  | 1, _, h, r => sz_c _ rfl (fun _ => Nat.le_of_ble_eq_true rfl) h r
  | 2, _, h, r => sz_c _ rfl (fun _ => Nat.le_of_ble_eq_true rfl) h r
  | 3, _, h, r => sz_c _ rfl (fun _ => Nat.le_of_ble_eq_true rfl) h r
  | 4, _, h, r => sz_c _ rfl (fun _ => Nat.le_of_ble_eq_true rfl) h r
  | 5, _, h, r => sz_c _ rfl (fun _ => Nat.le_of_ble_eq_true rfl) h r
  | 6, _, h, r => sz_c _ rfl (fun _ => Nat.le_of_ble_eq_true rfl) h r
  | 7, _, h, r => sz_c _ rfl (fun _ => Nat.le_of_ble_eq_true rfl) h r
  | 8, _, h, r => sz_c _ rfl (fun _ => Nat.le_of_ble_eq_true rfl) h r
  | 9, _, h, r => sz_c _ rfl (fun _ => Nat.le_of_ble_eq_true rfl) h r
  | 10, _, h, r => sz_c _ rfl (fun _ => Nat.le_of_ble_eq_true rfl) h r
  | 11, _, h, r => sz_c _ rfl (fun _ => Nat.le_of_ble_eq_true rfl) h r
  | 12, _, h, r => sz_c _ rfl (fun _ => Nat.le_of_ble_eq_true rfl) h r
  | 13, _, h, r => sz_c _ rfl (fun _ => Nat.le_of_ble_eq_true rfl) h r
  | 14, _, h, r => sz_c _ rfl (fun _ => Nat.le_of_ble_eq_true rfl) h r
  | 15, _, h, r => sz_c _ rfl (fun _ => Nat.le_of_ble_eq_true rfl) h r
  | 16, _, h, r => sz_c _ rfl (fun _ => Nat.le_of_ble_eq_true rfl) h r
  | 17, _, h, r => sz_c _ rfl (fun _ => Nat.le_of_ble_eq_true rfl) h r
  | 18, _, h, r => sz_c _ rfl (fun _ => Nat.le_of_ble_eq_true rfl) h r
  | 19, _, h, r => sz_c _ rfl (fun _ => Nat.le_of_ble_eq_true rfl) h r
  | 20, _, h, r => sz_c _ rfl (fun _ => Nat.le_of_ble_eq_true rfl) h r
  | 21, _, h, r => sz_c _ rfl (fun _ => Nat.le_of_ble_eq_true rfl) h r
  | 22, _, h, r => sz_c _ rfl (fun _ => Nat.le_of_ble_eq_true rfl) h r
  | 23, _, h, r => sz_c _ rfl (fun _ => Nat.le_of_ble_eq_true rfl) h r
  | 24, _, h, r => sz_c _ rfl (fun _ => Nat.le_of_ble_eq_true rfl) h r
  | 25, _, h, r => sz_c _ rfl (fun _ => Nat.le_of_ble_eq_true rfl) h r
  | 26, _, h, r => sz_c _ rfl (fun _ => Nat.le_of_ble_eq_true rfl) h r
  | 27, _, h, r => sz_c _ rfl (fun _ => Nat.le_of_ble_eq_true rfl) h r
  | 28, _, h, r => sz_c _ rfl (fun _ => Nat.le_of_ble_eq_true rfl) h r
  | 29, _, h, r => sz_c _ rfl (fun _ => Nat.le_of_ble_eq_true rfl) h r
  | 30, _, h, r => sz_c _ rfl (fun _ => Nat.le_of_ble_eq_true rfl) h r
  | 31, _, h, r => sz_c _ rfl (fun _ => Nat.le_of_ble_eq_true rfl) h r
  | 32, _, h, r => sz_c _ rfl (fun _ => Nat.le_of_ble_eq_true rfl) h r
  | 33, _, h, r => sz_c _ rfl (fun _ => Nat.le_of_ble_eq_true rfl) h r
  | 34, _, h, r => sz_c _ rfl (fun _ => Nat.le_of_ble_eq_true rfl) h r
  | 35, _, h, r => sz_c _ rfl (fun _ => Nat.le_of_ble_eq_true rfl) h r
  | 36, _, h, r => sz_c _ rfl (fun _ => Nat.le_of_ble_eq_true rfl) h r
  | 37, _, h, r => sz_c _ rfl (fun _ => Nat.le_of_ble_eq_true rfl) h r
  | 38, _, h, r => sz_c _ rfl (fun _ => Nat.le_of_ble_eq_true rfl) h r
  | 39, _, h, r => sz_c _ rfl (fun _ => Nat.le_of_ble_eq_true rfl) h r
  | 40, _, h, r => sz_c _ rfl (fun _ => Nat.le_of_ble_eq_true rfl) h r
  | 41, _, h, r => sz_c _ rfl (fun _ => Nat.le_of_ble_eq_true rfl) h r
  | 42, _, h, r => sz_c _ rfl (fun _ => Nat.le_of_ble_eq_true rfl) h r
  | 43, _, h, r => sz_c _ rfl (fun _ => Nat.le_of_ble_eq_true rfl) h r
  | 44, _, h, r => sz_c _ rfl (fun _ => Nat.le_of_ble_eq_true rfl) h r
  | 45, _, h, r => sz_c _ rfl (fun _ => Nat.le_of_ble_eq_true rfl) h r
  | 46, _, h, r => sz_c _ rfl (fun _ => Nat.le_of_ble_eq_true rfl) h r
  | 47, _, h, r => sz_c _ rfl (fun _ => Nat.le_of_ble_eq_true rfl) h r
  | 48, _, h, r => sz_c _ rfl (fun _ => Nat.le_of_ble_eq_true rfl) h r
  | 49, _, h, r => sz_c _ rfl (fun _ => Nat.le_of_ble_eq_true rfl) h r
  | 50, _, h, r => sz_c _ rfl (fun _ => Nat.le_of_ble_eq_true rfl) h r
  | 51, _, h, r => sz_c _ rfl (fun _ => Nat.le_of_ble_eq_true rfl) h r
  | 52, _, h, r => sz_c _ rfl (fun _ => Nat.le_of_ble_eq_true rfl) h r
  | 53, _, h, r => sz_c _ rfl (fun _ => Nat.le_of_ble_eq_true rfl) h r
  | 54, _, h, r => sz_c _ rfl (fun _ => Nat.le_of_ble_eq_true rfl) h r
  | 55, _, h, r => sz_c _ rfl (fun _ => Nat.le_of_ble_eq_true rfl) h r
  | 56, _, h, r => sz_c _ rfl (fun _ => Nat.le_of_ble_eq_true rfl) h r
  | 57, _, h, r => sz_c _ rfl (fun _ => Nat.le_of_ble_eq_true rfl) h r
  | 58, _, h, r => sz_c _ rfl (fun _ => Nat.le_of_ble_eq_true rfl) h r
  | 59, _, h, r => sz_c _ rfl (fun _ => Nat.le_of_ble_eq_true rfl) h r
  | 60, _, h, r => sz_c _ rfl (fun _ => Nat.le_of_ble_eq_true rfl) h r
  | 61, _, h, r => sz_c _ rfl (fun _ => Nat.le_of_ble_eq_true rfl) h r
  | 62, _, h, r => sz_c _ rfl (fun _ => Nat.le_of_ble_eq_true rfl) h r
  | 63, _, h, r => sz_c _ rfl (fun _ => Nat.le_of_ble_eq_true rfl) h r
  | 64, _, h, r => sz_c _ rfl (fun _ => Nat.le_of_ble_eq_true rfl) h r
  | 65, _, h, r => sz_c _ rfl (fun _ => Nat.le_of_ble_eq_true rfl) h r
  | 66, _, h, r => sz_c _ rfl (fun _ => Nat.le_of_ble_eq_true rfl) h r
  | 67, _, h, r => sz_c _ rfl (fun _ => Nat.le_of_ble_eq_true rfl) h r
  | 68, _, h, r => sz_c _ rfl (fun _ => Nat.le_of_ble_eq_true rfl) h r
  | 69, _, h, r => sz_c _ rfl (fun _ => Nat.le_of_ble_eq_true rfl) h r
  | 70, _, h, r => sz_c _ rfl (fun _ => Nat.le_of_ble_eq_true rfl) h r
  | 71, _, h, r => sz_c _ rfl (fun _ => Nat.le_of_ble_eq_true rfl) h r
  | 72, _, h, r => sz_c _ rfl (fun _ => Nat.le_of_ble_eq_true rfl) h r
  | 73, _, h, r => sz_c _ rfl (fun _ => Nat.le_of_ble_eq_true rfl) h r
  | 74, _, h, r => sz_c _ rfl (fun _ => Nat.le_of_ble_eq_true rfl) h r
  | 75, _, h, r => sz_c _ rfl (fun _ => Nat.le_of_ble_eq_true rfl) h r
  | 76, _, h, r => sz_c _ rfl (fun _ => Nat.le_of_ble_eq_true rfl) h r
  | 77, _, h, r => sz_c _ rfl (fun _ => Nat.le_of_ble_eq_true rfl) h r
  | 78, _, h, r => sz_c _ rfl (fun _ => Nat.le_of_ble_eq_true rfl) h r
  | 79, _, h, r => sz_c _ rfl (fun _ => Nat.le_of_ble_eq_true rfl) h r
  | 80, _, h, r => sz_c _ rfl (fun _ => Nat.le_of_ble_eq_true rfl) h r
  | 81, _, h, r => sz_c _ rfl (fun _ => Nat.le_of_ble_eq_true rfl) h r
  | 82, _, h, r => sz_c _ rfl (fun _ => Nat.le_of_ble_eq_true rfl) h r
  | 83, _, h, r => sz_c _ rfl (fun _ => Nat.le_of_ble_eq_true rfl) h r
  | 84, _, h, r => sz_c _ rfl (fun _ => Nat.le_of_ble_eq_true rfl) h r
  | 85, _, h, r => sz_c _ rfl (fun _ => Nat.le_of_ble_eq_true rfl) h r
  | 86, _, h, r => sz_c _ rfl (fun _ => Nat.le_of_ble_eq_true rfl) h r
  | 87, _, h, r => sz_c _ rfl (fun _ => Nat.le_of_ble_eq_true rfl) h r
  | 88, _, h, r => sz_c _ rfl (fun _ => Nat.le_of_ble_eq_true rfl) h r
  | 89, _, h, r => sz_c _ rfl (fun _ => Nat.le_of_ble_eq_true rfl) h r
  | 90, _, h, r => sz_c _ rfl (fun _ => Nat.le_of_ble_eq_true rfl) h r
  | 91, _, h, r => sz_c _ rfl (fun _ => Nat.le_of_ble_eq_true rfl) h r
  | 92, _, h, r => sz_c _ rfl (fun _ => Nat.le_of_ble_eq_true rfl) h r
  | 93, _, h, r => sz_c _ rfl (fun _ => Nat.le_of_ble_eq_true rfl) h r
  | c + 94, t, h, r => by
    have h1 := (List.getElem?_eq_some_iff.mp h).1
    rw [i_tl] at h1
    omega
theorem sum_le {B : Nat} : ∀ {l : List Nat}, (∀ x ∈ l, x ≤ B) → l.sum ≤ l.length * B
  | [], _ => Nat.zero_le _
  | a :: l, h => by
    rw [List.sum_cons, List.length_cons, Nat.add_mul, Nat.one_mul]
    have h1 := h a List.mem_cons_self
    have h2 := sum_le (B := B) (l := l) (fun x hx => h x (List.mem_cons_of_mem _ hx))
    omega
theorem sl_le (g : Gg) : ex_sl (mk g) ≤ 198528 := by
  have h : ((mk g).map ex_sz).sum ≤ ((mk g).map ex_sz).length * 2112 := sum_le (fun x hx => by
    obtain ⟨e, he, rfl⟩ := List.mem_map.mp hx
    obtain ⟨c, hc⟩ := List.getElem?_of_mem he
    unfold mk at hc
    rw [List.getElem?_mapIdx] at hc
    obtain ⟨t, ht, rfl⟩ := Option.map_eq_some_iff.mp hc
    exact sz_t c t ht _)
  rw [List.length_map, ln_mk] at h
  exact h
