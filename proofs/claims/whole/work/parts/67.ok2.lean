/-! the start holds -/
theorem ok_start {s : State} {A : Array Value} (hts : ∀ w ∈ lw_tbl, w.before A s = true) (hgv : st_C.before A s = true) (b : Nat) : ∃ (ad : Nat → Nat) (cA : Nat → ClassId) (D : va_G), ad 1022 = b ∧ ex_Ok (s, ad, cA, D) := by
  have htb : ∀ w ∈ ex_tb, w.before A s = true := fun w hw => hts w (List.mem_filter.mp hw).1
  have hs := flat_of_before _ hgv
  have hA : ∀ a : Nat, a < s.heap.size → ¬ (fun q : Nat => s.heap.size ≤ q) a := fun a h => Nat.not_le.mpr h
  obtain ⟨t, ht, hT⟩ := va_Tof (tm := .static RX8 "KEEPS" "[I") (ty := .int) (N := 4) (f := fun j => .int (([3, 2, 9, 6] : List Int32).getD j 0)) (A := fun q : Nat => s.heap.size ≤ q) (by decide) (hs _ st_ka) (va_eqt (hs _ st_kl)) (fun j hj => va_eqt (hs _ (st_kp j hj))) hA
  have hZ1 := va_Zref (hts _ (st_l _ (List.mem_of_getElem? (i := 0) rfl))) (hts _ (st_l _ (List.mem_of_getElem? (i := 1) rfl))) ht hA
  have hZ2 := va_Zof (hts _ (st_l _ (List.mem_of_getElem? (i := 2) rfl))) (hts _ (st_l _ (List.mem_of_getElem? (i := 3) rfl))) (va_eqi (hs _ st_cs)) hA
  have hZ3 := va_Zqof (hts _ (st_l _ (List.mem_of_getElem? (i := 4) rfl))) (hts _ (st_l _ (List.mem_of_getElem? (i := 5) rfl))) (hs _ st_si) hA
  obtain ⟨adK, adV, hS, hEv⟩ := vk_Sof (N := 9) (tm := ex_tm) (len := ex_len) (byt := ex_byt) (A := fun q : Nat => s.heap.size ≤ q) (by decide) (fun i hi => hs _ (st_ex i hi)) (fun i hi => hs _ (st_co i hi)) (fun i hi => hs _ (st_ar i hi)) (fun i hi => hs _ (st_le i hi)) (fun i hi j hj => hs _ (st_el i hi j hj)) (fun i j hi hj hij => (st_ne i hi j hj hij).imp (fun h => hs _ h) (fun h => hs _ h)) hA
  obtain ⟨D, hD⟩ := st_cl htb hts
  obtain ⟨a0, x0, y0⟩ := st_ac (htb _ tw_37)
  obtain ⟨a1, x1, y1⟩ := st_ac (htb _ tw_365)
  obtain ⟨a2, x2, y2⟩ := st_ao (hts _ tw_363)
  obtain ⟨a3, x3, y3⟩ := st_ao (hts _ tw_378)
  obtain ⟨tq, fl, hq⟩ : ∃ tq fl : Nat, va_Z "jdk/internal/util/Preconditions" "SIOOBE_FORMATTER" "Ljava/util/function/BiFunction;" (if fl = 0 then .null else .ref tq) (fun q : Nat => s.heap.size ≤ q) s s.heap := by
    rcases hZ3 with h | ⟨t2, h⟩
    · exact ⟨0, 0, h⟩
    · exact ⟨t2, 1, h⟩
  obtain ⟨ad, h22, h09, h20, h21, hK, hV⟩ : ∃ ad : Nat → Nat, ad 1022 = b ∧ ad 1009 = t ∧ ad 1020 = tq ∧ ad 1021 = fl ∧ (∀ i, i < 9 → ad (1000 + i) = adK i) ∧ ∀ i, i < 9 → ad (1010 + i) = adV i := by
    refine ⟨fun k => if k = 1022 then b else if k = 1009 then t else if k = 1020 then tq else if k = 1021 then fl else if k < 1009 then adK (k - 1000) else adV (k - 1010), rfl, rfl, rfl, rfl, fun i hi => ?_, fun i hi => ?_⟩
    · show (if 1000 + i = 1022 then b else if 1000 + i = 1009 then t else if 1000 + i = 1020 then tq else if 1000 + i = 1021 then fl else if 1000 + i < 1009 then adK (1000 + i - 1000) else adV (1000 + i - 1010)) = adK i
      rw [if_neg (by omega), if_neg (by omega), if_neg (by omega), if_neg (by omega), if_pos (by omega), show 1000 + i - 1000 = i by omega]
    · show (if 1010 + i = 1022 then b else if 1010 + i = 1009 then t else if 1010 + i = 1020 then tq else if 1010 + i = 1021 then fl else if 1010 + i < 1009 then adK (1010 + i - 1000) else adV (1010 + i - 1010)) = adV i
      rw [if_neg (by omega), if_neg (by omega), if_neg (by omega), if_neg (by omega), if_neg (by omega), show 1010 + i - 1010 = i by omega]
  refine ⟨ad, fun k => [a0, a1, a2, a3].getD k a0, D, h22, ⟨A, hts, hgv⟩, ⟨hD, fun k q hk => ?_⟩, ?_, ?_, hZ2, ⟨fun i hi => ?_, fun i j hi hj e => ?_⟩, fun i q hi => ?_, ?_⟩
  · match k, hk with
    | 0, hk => cases hk; exact ⟨x0, y0⟩
    | 1, hk => cases hk; exact ⟨x1, y1⟩
    | 2, hk => cases hk; exact ⟨x2, y2⟩
    | 3, hk => cases hk; exact ⟨x3, y3⟩
    | k + 4, hk => simp [ex_ty] at hk
  · show va_Z RX8 "KEEPS" "[I" (.ref (ad 1009)) _ s s.heap
    rw [h09]; exact hZ1
  · show va_T .int (ad 1009) 4 _ _ s s.heap
    rw [h09]; exact hT
  · show va_O "java/lang/String" (ad (1000 + i)) _ s s.heap ∧ va_OF "java/lang/String" "coder" "B" (.int 0) (ad (1000 + i)) _ s s.heap ∧ va_OF "java/lang/String" "value" "[B" (.ref (ad (1010 + i))) (ad (1000 + i)) _ s s.heap ∧ va_T .byte (ad (1010 + i)) (ex_len.getD i 0) _ _ s s.heap
    rw [hK i hi, hV i hi]
    exact hS.1 i hi
  · have e : ad (1000 + i) = ad (1000 + j) := e
    rw [hK i hi, hK j hj] at e
    exact hS.2 i j hi hj e
  · have hi9 : i < 9 := (List.getElem?_eq_some_iff.mp hi).1
    have hEi := hEv i hi9
    rw [st_tm hi] at hEi
    show vk_R RX5 q.1 q.2 (ad (1000 + i)) s
    rw [hK i hi9]
    exact vk_R.of (hts _ (st_sr q (List.mem_of_getElem? hi))) hEi
  · show va_Z _ _ _ (if ad 1021 = 0 then .null else .ref (ad 1020)) _ s s.heap
    rw [h21, h20]; exact hq
