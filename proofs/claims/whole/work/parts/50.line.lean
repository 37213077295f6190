/-! text: the lines, pure. z: the page read (74 numbers); 74 ONES, 75 NUMBERS of rota, 76 rota told, 77 THINGS told, 78 one more than the greatest ONE named -/
def addK (z : Nat → Nat) (kd v : Nat) : Nat → Nat := pt (pt (pt z (z 74) kd) (5 + z 74) v) 74 (z 74 + 1)
def addV (z : Nat → Nat) (i v : Nat) : Nat → Nat := pt (pt z 77 (z 77 ||| 2 ^ i)) (10 + i) v
def addR (z : Nat → Nat) (v : Nat) : Nat → Nat := pt (pt (pt z 78 (if v < 5 then max (z 78) (v + 1) else z 78)) (26 + z 75) (if v < 5 then v + 1 else 0)) 75 (z 75 + 1)
def hiW (z : Nat → Nat) (a : Nat) : Nat → Nat := pt z 78 (max (z 78) (a + 1))
def hiE (z : Nat → Nat) (a c : Nat) : Nat → Nat := pt z 78 (max (max (z 78) (a + 1)) (c + 1))
def bOne (b : Nat → Nat) (n kd : Nat) (t : Nat × Nat) (z : Nat → Nat) : (Nat × Nat) × (Nat → Nat) := ((nu b n 0 (fO 0 2 0) t).2, addK z kd (nu b n 0 (fO 0 2 0) t).1)
def bThing2 (b : Nat → Nat) (n : Nat) (A : Nat × Nat × Nat) (z : Nat → Nat) : (Nat × Nat) × (Nat → Nat) := ((nu b n 0 (fO 0 9 0) A.2).2, addV z A.1 (nu b n 0 (fO 0 9 0) A.2).1)
def bThing (b : Nat → Nat) (n : Nat) (t : Nat × Nat) (z : Nat → Nat) : (Nat × Nat) × (Nat → Nat) := bThing2 b n (nu b n 0 (fO 0 2 (z 77)) t) z
def bTurn3 (b : Nat → Nat) (n : Nat) (A B : Nat × Nat × Nat) (z : Nat → Nat) : (Nat × Nat) × (Nat → Nat) := ((nu b n 0 (fO 0 9 0) B.2).2, addT z A.1 B.1 (nu b n 0 (fO 0 9 0) B.2).1)
def bTurn2 (b : Nat → Nat) (n : Nat) (A : Nat × Nat × Nat) (z : Nat → Nat) : (Nat × Nat) × (Nat → Nat) := bTurn3 b n A (nu b n 0 (fO 0 2 0) A.2) z
def bTurn (b : Nat → Nat) (n : Nat) (t : Nat × Nat) (z : Nat → Nat) : (Nat × Nat) × (Nat → Nat) := bTurn2 b n (nu b n 0 (fO 0 9 0) t) z
def bWork4 (b : Nat → Nat) (n : Nat) (A B C : Nat × Nat × Nat) (z : Nat → Nat) : (Nat × Nat) × (Nat → Nat) := ((nu b n 1 (fO 1 9 0) C.2).2, addW (hiW z A.1) A.1 B.1 C.1 (nu b n 1 (fO 1 9 0) C.2).1)
def bWork3 (b : Nat → Nat) (n : Nat) (A B : Nat × Nat × Nat) (z : Nat → Nat) : (Nat × Nat) × (Nat → Nat) := bWork4 b n A B (nu b n B.1 (fO B.1 9 0) B.2) z
def bWork2 (b : Nat → Nat) (n : Nat) (A : Nat × Nat × Nat) (z : Nat → Nat) : (Nat × Nat) × (Nat → Nat) := bWork3 b n A (nu b n 0 (fO 0 9 0) A.2) z
def bWork (b : Nat → Nat) (n : Nat) (t : Nat × Nat) (z : Nat → Nat) : (Nat × Nat) × (Nat → Nat) := bWork2 b n (nu b n 0 (fO 0 4 0) t) z
def bTell4 (b : Nat → Nat) (n : Nat) (A B C : Nat × Nat × Nat) (z : Nat → Nat) : (Nat × Nat) × (Nat → Nat) := ((nu b n 0 (fO 0 2 0) C.2).2, addE (hiE z B.1 C.1) A.1 B.1 C.1 (nu b n 0 (fO 0 2 0) C.2).1)
def bTell3 (b : Nat → Nat) (n : Nat) (A B : Nat × Nat × Nat) (z : Nat → Nat) : (Nat × Nat) × (Nat → Nat) := bTell4 b n A B (nu b n 0 (fO 0 4 0) (dif b n B.1 B.2)) z
def bTell2 (b : Nat → Nat) (n : Nat) (A : Nat × Nat × Nat) (z : Nat → Nat) : (Nat × Nat) × (Nat → Nat) := bTell3 b n A (nu b n 0 (fO 0 4 0) A.2) z
def bTell (b : Nat → Nat) (n : Nat) (t : Nat × Nat) (z : Nat → Nat) : (Nat × Nat) × (Nat → Nat) := bTell2 b n (nu b n 0 (fO 0 9 0) t) z
def rot (b : Nat → Nat) (n : Nat) : Nat → (Nat × Nat) → (Nat → Nat) → (Nat × Nat) × (Nat → Nat)
  | 0, t, z => (t, z)
  | d + 1, t, z => if t.1 ≠ 0 then (t, z) else if kK b n (sk b n t.2) ≠ 2 then (t, z) else if z 75 = 10 then ((5, sk b n t.2), z) else rot b n d (nu b n 0 (fO 0 5 0) t).2 (addR z (nu b n 0 (fO 0 5 0) t).1)
theorem rot_b {b : Nat → Nat} {n c p : Nat} {z : Nat → Nat} (h : c ≠ 0) : ∀ d, rot b n d (c, p) z = ((c, p), z)
  | 0 => rfl
  | d + 1 => if_pos h
/-! what holds of the page read -/
def Hi (z : Nat → Nat) : Prop := ∀ K, z 78 ≤ K ↔ (∀ h, h < 10 → z (26 + h) ≤ K) ∧ (∀ i, i < z 56 → z (36 + 4 * i) < K) ∧ ∀ t, t < z 73 → z (57 + 4 * t + 1) < K ∧ z (57 + 4 * t + 2) < K
def Zd (z : Nat → Nat) : Prop := Gd z 5 ∧ z 74 ≤ 5 ∧ Hi z ∧ z 76 ≤ 1 ∧ z 77 < 8 ∧ z 78 ≤ 5 ∧ (z 76 = 0 → z 75 = 0 ∧ ∀ h, h < 10 → z (26 + h) = 0)
theorem Gd_x {q : Nat → Nat} {K i v : Nat} (hG : Gd q K) (hi : 74 ≤ i) (hv : v ≤ 10) : Gd (pt q i v) K := by
  obtain ⟨h1, h2, h3, h4, h5, h6, h7, h8, h9, h10, h11⟩ := hG
  refine ⟨h1, pt_le h2 hv, fun k hk => ?_, ?_, fun t ht => ?_, fun h hh => ?_, ?_, fun j hj => ?_, ?_, fun t ht => ?_, fun j hj => ?_⟩
  · rw [pt_n (by omega), pt_n (by omega)]; exact h3 k hk
  · rw [pt_n (by omega)]; exact h4
  · rw [pt_n (by omega)] at ht
    rw [pt_n (by omega), pt_n (by omega), pt_n (by omega)]; exact h5 t ht
  · rw [pt_n (by omega)]; exact h6 h hh
  · rw [pt_n (by omega)]; exact h7
  · rw [pt_n (by omega)] at hj
    rw [pt_n (by omega), pt_n (by omega), pt_n (by omega), pt_n (by omega)]; exact h8 j hj
  · rw [pt_n (by omega)]; exact h9
  · rw [pt_n (by omega)] at ht
    rw [pt_n (by omega), pt_n (by omega), pt_n (by omega), pt_n (by omega)]; exact h10 t ht
  · rw [pt_n (by omega)]; exact h11 j hj
theorem Hi.c {z y : Nat → Nat} (h : Hi z) (hw : z 56 ≤ 5) (he : z 73 ≤ 4) (h78 : y 78 = z 78) (ho : ∀ i, 26 ≤ i → i < 74 → y i = z i) : Hi y := by
  intro K
  rw [h78, h K, ho 56 (by decide) (by decide), ho 73 (by decide) (by decide)]
  constructor
  · rintro ⟨a, b, c⟩
    refine ⟨fun i hi => ?_, fun i hi => ?_, fun t ht => ?_⟩
    · rw [ho _ (by omega) (by omega)]; exact a i hi
    · rw [ho _ (by omega) (by omega)]; exact b i hi
    · rw [ho _ (by omega) (by omega), ho _ (by omega) (by omega)]; exact c t ht
  · rintro ⟨a, b, c⟩
    refine ⟨fun i hi => ?_, fun i hi => ?_, fun t ht => ?_⟩
    · rw [← ho _ (by omega) (by omega)]; exact a i hi
    · rw [← ho _ (by omega) (by omega)]; exact b i hi
    · rw [← ho _ (by omega) (by omega), ← ho (57 + 4 * t + 2) (by omega) (by omega)]; exact c t ht
theorem Zd_K {z : Nat → Nat} {kd v : Nat} (h : Zd z) (h5 : z 74 < 5) (hk : kd ≤ 3) (hv : v ≤ 2) : Zd (addK z kd v) := by
  obtain ⟨h1, h2, h3, h4, h6, h7, h8⟩ := h
  have o : ∀ i, 10 ≤ i → i ≠ 74 → addK z kd v i = z i := fun i hi h74 => by
    unfold addK
    rw [pt_n h74, pt_n (by omega), pt_n (by omega)]
  have g1 := Gd_kin (v := kd) (j := 0) h1 h5 (by decide) hk (fun h => absurd h (by decide))
  rw [Nat.mul_zero, Nat.zero_add] at g1
  have g2 := Gd_kin (v := v) (j := 1) g1 h5 (by decide) (by omega) (fun _ => hv)
  rw [Nat.mul_one] at g2
  refine ⟨Gd_x g2 (by decide) (by omega), ?_, h3.c h1.wn h1.en (o 78 (by decide) (by decide)) (fun i h9 h10 => o i (by omega) (by omega)), ?_, ?_, ?_, ?_⟩
  · unfold addK
    rw [pt_s]; omega
  · rw [o 76 (by decide) (by decide)]; exact h4
  · rw [o 77 (by decide) (by decide)]; exact h6
  · rw [o 78 (by decide) (by decide)]; exact h7
  · intro e76
    rw [o 76 (by decide) (by decide)] at e76
    have e75 := h8 e76
    exact ⟨by rw [o 75 (by decide) (by decide)]; exact e75.1, fun i hi => by rw [o (26 + i) (by omega) (by omega)]; exact e75.2 i hi⟩
theorem or8 {a i : Nat} (ha : a < 8) (hi : i < 3) : a ||| 2 ^ i < 8 := by
  have : 2 ^ i < 2 ^ 3 := Nat.pow_lt_pow_right (by decide) hi
  exact Nat.or_lt_two_pow (n := 3) ha this
theorem Zd_V {z : Nat → Nat} {i v : Nat} (h : Zd z) (hi : i < 3) (hv : v ≤ 9) : Zd (addV z i v) := by
  obtain ⟨h1, h2, h3, h4, h6, h7, h8⟩ := h
  have hor := or8 h6 hi
  have o : ∀ j, 13 ≤ j → j ≠ 77 → addV z i v j = z j := fun j hj h77 => by
    unfold addV
    rw [pt_n (by omega), pt_n h77]
  refine ⟨Gd_fv (Gd_x h1 (by decide) (by omega)) hi hv, ?_, h3.c h1.wn h1.en (o 78 (by decide) (by decide)) (fun j h9 h10 => o j (by omega) (by omega)), ?_, ?_, ?_, ?_⟩
  · rw [o 74 (by decide) (by decide)]; exact h2
  · rw [o 76 (by decide) (by decide)]; exact h4
  · unfold addV
    rw [pt_n (by omega), pt_s]; exact hor
  · rw [o 78 (by decide) (by decide)]; exact h7
  · intro e76
    rw [o 76 (by decide) (by decide)] at e76
    have e75 := h8 e76
    exact ⟨by rw [o 75 (by decide) (by decide)]; exact e75.1, fun i hi => by rw [o (26 + i) (by omega) (by omega)]; exact e75.2 i hi⟩
theorem Zd_T {z : Nat → Nat} {a b c : Nat} (h : Zd z) (hn : z 25 < 4) (ha : a ≤ 9) (hb : b ≤ 2) (hc : c ≤ 9) : Zd (addT z a b c) := by
  obtain ⟨h1, h2, h3, h4, h6, h7, h8⟩ := h
  have o : ∀ j, 26 ≤ j → addT z a b c j = z j := fun j hj => addT_o hn (by omega) (by omega)
  refine ⟨Gd_addT h1 hn ha hb hc, ?_, h3.c h1.wn h1.en (o 78 (by decide)) (fun j h9 h10 => o j h9), ?_, ?_, ?_, ?_⟩
  · rw [o 74 (by decide)]; exact h2
  · rw [o 76 (by decide)]; exact h4
  · rw [o 77 (by decide)]; exact h6
  · rw [o 78 (by decide)]; exact h7
  · intro e76
    rw [o 76 (by decide)] at e76
    have e75 := h8 e76
    exact ⟨by rw [o 75 (by decide)]; exact e75.1, fun i hi => by rw [o (26 + i) (by omega)]; exact e75.2 i hi⟩
theorem Zd_W {z : Nat → Nat} {a b c d : Nat} (h : Zd z) (hn : z 56 < 5) (ha : a < 5) (hb : b ≤ c) (hc : c ≤ 9) (hd : 1 ≤ d) (hd2 : d ≤ 9) : Zd (addW (hiW z a) a b c d) := by
  obtain ⟨h1, h2, h3, h4, h6, h7, h8⟩ := h
  have hm : max (z 78) (a + 1) ≤ 5 := Nat.max_le.mpr ⟨h7, by omega⟩
  have k : hiW z a 56 = z 56 := pt_n (by decide)
  have hen := h1.en
  have hg : Gd (hiW z a) 5 := Gd_x h1 (by decide) (by omega)
  have o : ∀ j, j ≠ 56 → j ≠ 78 → (j < 36 + 4 * z 56 ∨ 36 + 4 * z 56 + 4 ≤ j) → addW (hiW z a) a b c d j = z j := fun j h56 h78 hj => by
    rw [addW_o h56 (by rw [k]; exact hj)]; exact pt_n h78
  have o78 : addW (hiW z a) a b c d 78 = max (z 78) (a + 1) := by
    rw [addW_o (by decide) (by rw [k]; omega)]; exact pt_s _ _ _
  have o56 : addW (hiW z a) a b c d 56 = z 56 + 1 := by rw [addW_56, k]
  have oa : addW (hiW z a) a b c d (36 + 4 * z 56) = a := by
    have := addW_0 (q := hiW z a) (a := a) (b := b) (c := c) (d := d) (by rw [k]; exact hn)
    rw [k] at this
    exact this
  refine ⟨Gd_addW hg (by rw [k]; exact hn) ha hb hc hd hd2, ?_, fun K => ?_, ?_, ?_, ?_, ?_⟩
  · rw [o 74 (by decide) (by decide) (by omega)]; exact h2
  · rw [o78, o56, Nat.max_le, h3 K, o 73 (by decide) (by decide) (by omega)]
    constructor
    · rintro ⟨⟨p1, p2, p3⟩, p4⟩
      refine ⟨fun i hi => ?_, fun i hi => ?_, fun t ht => ?_⟩
      · rw [o _ (by omega) (by omega) (by omega)]; exact p1 i hi
      · by_cases e : i = z 56
        · rw [e, oa]; exact p4
        · rw [o _ (by omega) (by omega) (by omega)]; exact p2 i (by omega)
      · rw [o _ (by omega) (by omega) (by omega), o _ (by omega) (by omega) (by omega)]; exact p3 t ht
    · rintro ⟨p1, p2, p3⟩
      refine ⟨⟨fun i hi => ?_, fun i hi => ?_, fun t ht => ?_⟩, ?_⟩
      · have := p1 i hi
        rw [o _ (by omega) (by omega) (by omega)] at this; exact this
      · have := p2 i (by omega)
        rw [o _ (by omega) (by omega) (by omega)] at this; exact this
      · have := p3 t ht
        rw [o _ (by omega) (by omega) (by omega), o _ (by omega) (by omega) (by omega)] at this; exact this
      · have := p2 (z 56) (by omega)
        rw [oa] at this; exact this
  · rw [o 76 (by decide) (by decide) (by omega)]; exact h4
  · rw [o 77 (by decide) (by decide) (by omega)]; exact h6
  · rw [o78]; exact hm
  · intro e76
    rw [o 76 (by decide) (by decide) (by omega)] at e76
    have e75 := h8 e76
    exact ⟨by rw [o 75 (by decide) (by decide) (by omega)]; exact e75.1, fun i hi => by rw [o (26 + i) (by omega) (by omega) (by omega)]; exact e75.2 i hi⟩
theorem Zd_E {z : Nat → Nat} {a b c d : Nat} (h : Zd z) (hn : z 73 < 4) (ha : a ≤ 9) (hb : b < 5) (hc : c < 5) (hd : d ≤ 2) : Zd (addE (hiE z b c) a b c d) := by
  obtain ⟨h1, h2, h3, h4, h6, h7, h8⟩ := h
  have hm : max (max (z 78) (b + 1)) (c + 1) ≤ 5 := Nat.max_le.mpr ⟨Nat.max_le.mpr ⟨h7, by omega⟩, by omega⟩
  have k : hiE z b c 73 = z 73 := pt_n (by decide)
  have hwn := h1.wn
  have hg : Gd (hiE z b c) 5 := Gd_x h1 (by decide) (by omega)
  have o : ∀ j, j ≠ 73 → j ≠ 78 → (j < 57 + 4 * z 73 ∨ 57 + 4 * z 73 + 4 ≤ j) → addE (hiE z b c) a b c d j = z j := fun j h73 h78 hj => by
    rw [addE_o h73 (by rw [k]; exact hj)]; exact pt_n h78
  have o78 : addE (hiE z b c) a b c d 78 = max (max (z 78) (b + 1)) (c + 1) := by
    rw [addE_o (by decide) (by rw [k]; omega)]; exact pt_s _ _ _
  have o73 : addE (hiE z b c) a b c d 73 = z 73 + 1 := by rw [addE_73, k]
  have ob : addE (hiE z b c) a b c d (57 + 4 * z 73 + 1) = b := by
    have := addE_1 (q := hiE z b c) (a := a) (b := b) (c := c) (d := d) (by rw [k]; exact hn)
    rw [k] at this
    exact this
  have oc : addE (hiE z b c) a b c d (57 + 4 * z 73 + 2) = c := by
    have := addE_2 (q := hiE z b c) (a := a) (b := b) (c := c) (d := d) (by rw [k]; exact hn)
    rw [k] at this
    exact this
  refine ⟨Gd_addE hg (by rw [k]; exact hn) ha hb hc hd, ?_, fun K => ?_, ?_, ?_, ?_, ?_⟩
  · rw [o 74 (by decide) (by decide) (by omega)]; exact h2
  · rw [o78, o73, Nat.max_le, Nat.max_le, h3 K, o 56 (by decide) (by decide) (by omega)]
    constructor
    · rintro ⟨⟨⟨p1, p2, p3⟩, p4⟩, p5⟩
      refine ⟨fun i hi => ?_, fun i hi => ?_, fun t ht => ?_⟩
      · rw [o _ (by omega) (by omega) (by omega)]; exact p1 i hi
      · rw [o _ (by omega) (by omega) (by omega)]; exact p2 i hi
      · by_cases e : t = z 73
        · rw [e, ob, oc]; exact ⟨p4, p5⟩
        · rw [o _ (by omega) (by omega) (by omega), o _ (by omega) (by omega) (by omega)]; exact p3 t (by omega)
    · rintro ⟨p1, p2, p3⟩
      have p9 := p3 (z 73) (by omega)
      rw [ob, oc] at p9
      refine ⟨⟨⟨fun i hi => ?_, fun i hi => ?_, fun t ht => ?_⟩, p9.1⟩, p9.2⟩
      · have := p1 i hi
        rw [o _ (by omega) (by omega) (by omega)] at this; exact this
      · have := p2 i hi
        rw [o _ (by omega) (by omega) (by omega)] at this; exact this
      · have := p3 t (by omega)
        rw [o _ (by omega) (by omega) (by omega), o _ (by omega) (by omega) (by omega)] at this; exact this
  · rw [o 76 (by decide) (by decide) (by omega)]; exact h4
  · rw [o 77 (by decide) (by decide) (by omega)]; exact h6
  · rw [o78]; exact hm
  · intro e76
    rw [o 76 (by decide) (by decide) (by omega)] at e76
    have e75 := h8 e76
    exact ⟨by rw [o 75 (by decide) (by decide) (by omega)]; exact e75.1, fun i hi => by rw [o (26 + i) (by omega) (by omega) (by omega)]; exact e75.2 i hi⟩
/-- within rota: its rows behind those told are 0 -/
def Zr (z : Nat → Nat) : Prop := Zd z ∧ z 76 = 1 ∧ ∀ h, z 75 ≤ h → h < 10 → z (26 + h) = 0
theorem Zd_R {z : Nat → Nat} {v : Nat} (h : Zr z) (hn : z 75 < 10) (hv : v ≤ 5) : Zr (addR z v) := by
  obtain ⟨⟨h1, h2, h3, h4, h6, h7, h8⟩, h9, h10⟩ := h
  obtain ⟨r, er⟩ : ∃ r, r = (if v < 5 then v + 1 else 0) := ⟨_, rfl⟩
  obtain ⟨m, em⟩ : ∃ m, m = (if v < 5 then max (z 78) (v + 1) else z 78) := ⟨_, rfl⟩
  have hr : r ≤ 5 := by rw [er]; split <;> omega
  have hmK : ∀ K, m ≤ K ↔ z 78 ≤ K ∧ r ≤ K := fun K => by
    rw [em, er]
    split
    · rw [Nat.max_le]
    · constructor
      · intro h; exact ⟨h, Nat.zero_le K⟩
      · intro h; exact h.1
  have ez : addR z v = pt (pt (pt z 78 m) (26 + z 75) r) 75 (z 75 + 1) := by rw [er, em]; rfl
  have o : ∀ j, j ≠ 75 → j ≠ 78 → j ≠ 26 + z 75 → addR z v j = z j := fun j a1 a2 a3 => by
    rw [ez, pt_n a1, pt_n a3, pt_n a2]
  have o78 : addR z v 78 = m := by rw [ez, pt_n (by decide), pt_n (by omega), pt_s]
  have o75 : addR z v 75 = z 75 + 1 := by rw [ez, pt_s]
  have orr : addR z v (26 + z 75) = r := by rw [ez, pt_n (by omega), pt_s]
  have hm5 : m ≤ 5 := (hmK 5).mpr ⟨h7, hr⟩
  have hwn := h1.wn
  have hen := h1.en
  refine ⟨⟨?_, ?_, fun K => ?_, ?_, ?_, ?_, fun h => ?_⟩, ?_, fun h hh hh2 => ?_⟩
  · rw [ez]
    exact Gd_x (Gd_ro (Gd_x h1 (by decide) (by omega)) hn hr) (by decide) (by omega)
  · rw [o 74 (by decide) (by decide) (by omega)]; exact h2
  · rw [o78, hmK, h3 K, o 56 (by decide) (by decide) (by omega), o 73 (by decide) (by decide) (by omega)]
    constructor
    · rintro ⟨⟨p1, p2, p3⟩, p4⟩
      refine ⟨fun i hi => ?_, fun i hi => ?_, fun t ht => ?_⟩
      · by_cases e : i = z 75
        · rw [e, orr]; exact p4
        · rw [o _ (by omega) (by omega) (by omega)]; exact p1 i hi
      · rw [o _ (by omega) (by omega) (by omega)]; exact p2 i hi
      · rw [o _ (by omega) (by omega) (by omega), o _ (by omega) (by omega) (by omega)]; exact p3 t ht
    · rintro ⟨p1, p2, p3⟩
      have p9 := p1 (z 75) hn
      rw [orr] at p9
      refine ⟨⟨fun i hi => ?_, fun i hi => ?_, fun t ht => ?_⟩, p9⟩
      · by_cases e : i = z 75
        · rw [e, h10 _ (Nat.le_refl _) hn]; exact Nat.zero_le K
        · have := p1 i hi
          rw [o _ (by omega) (by omega) (by omega)] at this; exact this
      · have := p2 i hi
        rw [o _ (by omega) (by omega) (by omega)] at this; exact this
      · have := p3 t ht
        rw [o _ (by omega) (by omega) (by omega), o _ (by omega) (by omega) (by omega)] at this; exact this
  · rw [o 76 (by decide) (by decide) (by omega)]; exact h4
  · rw [o 77 (by decide) (by decide) (by omega)]; exact h6
  · rw [o78]; exact hm5
  · rw [o 76 (by decide) (by decide) (by omega)] at h
    exfalso
    omega
  · rw [o 76 (by decide) (by decide) (by omega)]; exact h9
  · rw [o75] at hh
    rw [o _ (by omega) (by omega) (by omega)]; exact h10 h (by omega) hh2
