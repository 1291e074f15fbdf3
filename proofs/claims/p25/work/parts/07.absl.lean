/-! rows on the state's functions -/
theorem a_come_t {x : Int32} {a : AS} (h : a.1 4 < a.1 0) : a_come x a = sN (sA (sA a 0 (upd (a.2 0) (a.1 4) x)) 1 (upd (a.2 1) (a.1 4) (nI (a.1 7)))) 4 (a.1 4 + 1) := if_pos h
theorem a_come_f {x : Int32} {a : AS} (h : ¬ a.1 4 < a.1 0) : a_come x a = sN a 6 (a.1 6 + 1) := if_neg h
theorem k_min {a b : Nat} (ha : a < 2 ^ 31) (hb : b < 2 ^ 31) : (if nI b < nI a then nI b else nI a) = nI (min a b) := by
  rcases Nat.lt_or_ge b a with q | q
  · rw [if_pos (nI_lt q ha), Nat.min_eq_right (Nat.le_of_lt q)]
  · rw [if_neg (nI_nlt q hb), Nat.min_eq_left q]
theorem k_max {a b : Nat} (ha : a < 2 ^ 31) (hb : b < 2 ^ 31) : (if nI a < nI b then nI b else nI a) = nI (max a b) := by
  rcases Nat.lt_or_ge a b with q | q
  · rw [if_pos (nI_lt q hb), Nat.max_eq_right (Nat.le_of_lt q)]
  · rw [if_neg (nI_nlt q ha), Nat.max_eq_left q]
theorem shp_0 {f : Nat → Int32} {k : Nat} : shp f k 0 = f := by
  funext j
  exact if_neg (Nat.not_lt_zero j)
theorem shp_step {f : Nat → Int32} {k i : Nat} : upd (shp f k i) i (shp f k i (k + i)) = shp f k (i + 1) := by
  funext j
  unfold upd shp
  by_cases h : j = i
  · subst h
    rw [if_pos rfl, if_neg (by omega), if_pos (by omega), Nat.add_comm]
  · rw [if_neg h]
    by_cases h2 : j < i
    · rw [if_pos h2, if_pos (by omega)]
    · rw [if_neg h2, if_neg (by omega)]
/-- the highest that is had, with what comes -/
theorem k_maxh {h p : Nat} (hh : h ≤ 300) (hp : p < 300) : (if nI h - 1 < nI p then nI p else nI h - 1) = nI (max h (p + 1)) - 1 := by
  have e1 : (nI h - 1).toInt = (h : Int) - 1 := pk_sub_toInt (b := 1) (by omega) (by omega)
  have e2 : (nI p).toInt = (p : Int) := nI_toInt (by omega)
  by_cases q : h < p + 1
  · rw [if_pos (Int32.lt_iff_toInt_lt.mpr (by omega)), Nat.max_eq_right (by omega)]
    exact (nI_pred p).symm
  · rw [Nat.max_eq_left (by omega)]
    by_cases q2 : nI h - 1 < nI p
    · exact absurd (Int32.lt_iff_toInt_lt.mp q2) (by omega)
    · exact if_neg q2
theorem k_hlt {h p : Nat} (hh : h ≤ 300) (hp : p < 1000) : nI p < nI h - 1 ↔ p < h - 1 := by
  have e1 : (nI h - 1).toInt = (h : Int) - 1 := pk_sub_toInt (b := 1) (by omega) (by omega)
  have e2 : (nI p).toInt = (p : Int) := nI_toInt (by omega)
  rw [Int32.lt_iff_toInt_lt]
  omega
theorem k_hle {h p : Nat} (hh : h ≤ 300) (hp : p < 1000) : nI h - 1 ≤ nI p ↔ h - 1 ≤ p := by
  have e1 : (nI h - 1).toInt = (h : Int) - 1 := pk_sub_toInt (b := 1) (by omega) (by omega)
  have e2 : (nI p).toInt = (p : Int) := nI_toInt (by omega)
  rw [Int32.le_iff_toInt_le]
  omega
theorem k_maxl {u h : Nat} (hh : h ≤ 300) (hu : u < 300) : (if nI u < nI h - 1 then nI h - 1 else nI u) = nI (max u (h - 1)) := by
  by_cases q : u < h - 1
  · rw [if_pos ((k_hlt hh (by omega)).mpr q), Nat.max_eq_right (by omega)]
    exact pk_sub (b := 1) (by omega)
  · rw [if_neg (fun z => q ((k_hlt hh (by omega)).mp z)), Nat.max_eq_left (by omega)]
theorem vp_nI {x : Int32} {n : Nat} (h : vp_in x n) (hn : n < 2 ^ 31) : x = nI x.toNatClampNeg := by
  obtain ⟨j, hj, rfl⟩ := vp_in_of h hn
  rw [nI_clamp (by omega)]
theorem vp_lt {x : Int32} {n : Nat} (h : vp_in x n) (hn : n < 2 ^ 31) : x.toNatClampNeg < n := by
  obtain ⟨j, hj, rfl⟩ := vp_in_of h hn
  rw [nI_clamp (by omega)]
  exact hj
theorem nI_m1 {k : Nat} (h : k < 2 ^ 31) : ¬ nI k = -1 := fun q => by
  have h1 := nI_toInt h
  rw [q] at h1
  have h2 : (-1 : Int32).toInt = -1 := by decide
  omega
theorem askS_le {had : Nat → Int32} {nx lu : Nat} (s : Nat × (Nat → Int32) × (Nat → Int32)) : ∀ k : Nat, (askS had nx lu k s).1 ≤ s.1 + k
  | 0 => Nat.le_refl _
  | k + 1 => by
    have := askS_le (had := had) (nx := nx) (lu := lu) s k
    unfold askS
    split
    · show (askS had nx lu k s).1 + 1 ≤ s.1 + (k + 1)
      omega
    · omega
theorem a_askS_t {a : AS} {k : Nat} (h : a.2 2 (a.1 13 + k) = 0 ∧ a.1 11 ≤ (a.1 13 + k) / 3) : a_askS a (k + 1) = ((a_askS a k).1 + 1, upd (a_askS a k).2.1 (a_askS a k).1 (nI (a.1 13 + k)), upd (a_askS a k).2.2 (a.1 13 + k) (nI 1)) := if_pos h
theorem a_askS_f {a : AS} {k : Nat} (h : ¬ (a.2 2 (a.1 13 + k) = 0 ∧ a.1 11 ≤ (a.1 13 + k) / 3)) : a_askS a (k + 1) = a_askS a k := if_neg h
theorem fillN_f {had : Nat → Int32} {f : Nat} (h : ¬ whl had f) : ∀ n : Nat, fillN had n f = 0
  | 0 => rfl
  | n + 1 => if_neg h
theorem fillN_t {had : Nat → Int32} {f n : Nat} (h : whl had f) (hn : 0 < n) : fillN had n f = fillN had (n - 1) (f + 1) + 1 := by
  obtain ⟨k, rfl⟩ : ∃ k, n = k + 1 := ⟨n - 1, by omega⟩
  exact if_pos h
theorem a_out_le (a : AS) : a_out a ≤ 3 := by
  unfold a_out outc
  split
  · split <;> decide
  · decide
theorem bT_m1 {a : AS} (h : a.1 10 < 2 ^ 31) : bT a = -1 ↔ a.1 9 = 0 := by
  unfold bT
  by_cases q : a.1 9 = 0
  · rw [if_pos q]; exact ⟨fun _ => q, fun _ => rfl⟩
  · rw [if_neg q]; exact ⟨fun z => absurd z (nI_m1 h), fun z => absurd z q⟩
theorem bT_n {a : AS} (h : ¬ a.1 9 = 0) : bT a = nI (a.1 10) := if_neg h
theorem tT_m1 {a : AS} (h : a.1 12 < 2 ^ 31) : tT a = -1 ↔ (a.1 9 = 0 ∨ 100 ≤ a.1 11) := by
  unfold tT
  by_cases q : a.1 9 = 0 ∨ 100 ≤ a.1 11
  · rw [if_pos q]; exact ⟨fun _ => q, fun _ => rfl⟩
  · rw [if_neg q]; exact ⟨fun z => absurd z (nI_m1 h), fun z => absurd z q⟩
theorem tT_n {a : AS} (h : ¬ (a.1 9 = 0 ∨ 100 ≤ a.1 11)) : tT a = nI (a.1 12) := if_neg h
theorem tT_t {a : AS} {t : Nat} (h : a.1 12 < 2 ^ 31) (ht : t < 2 ^ 31) : tT a = nI t ↔ (¬ a.1 9 = 0 ∧ a.1 11 < 100 ∧ a.1 12 = t) := by
  unfold tT
  by_cases q : a.1 9 = 0 ∨ 100 ≤ a.1 11
  · rw [if_pos q]
    exact ⟨fun z => absurd z.symm (nI_m1 ht), fun z => absurd q (fun w => w.elim z.1 (fun w => by omega))⟩
  · rw [if_neg q]
    exact ⟨fun z => ⟨fun w => q (Or.inl w), by omega, (nI_eq h ht).mp z⟩, fun z => by rw [z.2.2]⟩
theorem bef_lt {f : Nat} (h : f < 100) : bef f < 100 := by
  unfold bef
  split <;> omega
theorem beh_lt {f : Nat} (h : f < 100) (h3 : ¬ f % 3 = 0) : beh f < 100 := by
  unfold beh
  omega
theorem fillN_le {had : Nat → Int32} : ∀ n f : Nat, fillN had n f ≤ n
  | 0, _ => Nat.le_refl _
  | n + 1, f => by
    have := fillN_le (had := had) n (f + 1)
    unfold fillN
    split <;> omega
theorem a_fill_le (a : AS) : a_fill a ≤ 100 := Nat.le_trans (fillN_le _ _) (by omega)
