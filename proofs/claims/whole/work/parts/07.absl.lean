/-! rows on the state's functions -/
theorem a_come_t {x : Int32} {a : AS} (h : a.1 4 < a.1 0) : a_come x a = sN (sA (sA a 0 (upd (a.2 0) (a.1 4) x)) 1 (upd (a.2 1) (a.1 4) (nI (a.1 7)))) 4 (a.1 4 + 1) := if_pos h
theorem a_come_f {x : Int32} {a : AS} (h : ¬ a.1 4 < a.1 0) : a_come x a = sN a 6 (a.1 6 + 1) := if_neg h
theorem k_min {a b : Nat} (ha : a < 2 ^ 31) (hb : b < 2 ^ 31) : (if nI b < nI a then nI b else nI a) = nI (min a b) := by
  rcases Nat.lt_or_ge b a with q | q
  · rw [if_pos (nI_lt q ha), Nat.min_eq_right (Nat.le_of_lt q)]
  · rw [if_neg (nI_nlt q hb), Nat.min_eq_left q]
theorem k_max {a b : Nat} (ha : a < 2 ^ 31) (hb : b < 2 ^ 31) : (if nI a < nI b then nI b else nI a) = nI (max a b) := by
  rcases Nat.lt_or_ge a b with q | q
  · rw [if_pos (nI_lt q hb), Nat.max_eq_right (Nat.le_of_lt q)]
  · rw [if_neg (nI_nlt q ha), Nat.max_eq_left q]
theorem shp_0 {f : Nat → Int32} {k : Nat} : shp f k 0 = f := by
  funext j
  exact if_neg (Nat.not_lt_zero j)
theorem shp_step {f : Nat → Int32} {k i : Nat} : upd (shp f k i) i (shp f k i (k + i)) = shp f k (i + 1) := by
  funext j
  unfold upd shp
  by_cases h : j = i
  · subst h
    rw [if_pos rfl, if_neg (by omega), if_pos (by omega), Nat.add_comm]
  · rw [if_neg h]
    by_cases h2 : j < i
    · rw [if_pos h2, if_pos (by omega)]
    · rw [if_neg h2, if_neg (by omega)]
/-- the highest that is had, with what comes -/
theorem k_maxh {h p : Nat} (hh : h ≤ 300) (hp : p < 300) : (if nI h - 1 < nI p then nI p else nI h - 1) = nI (max h (p + 1)) - 1 := by
  have e1 : (nI h - 1).toInt = (h : Int) - 1 := pk_sub_toInt (b := 1) (by omega) (by omega)
  have e2 : (nI p).toInt = (p : Int) := nI_toInt (by omega)
  by_cases q : h < p + 1
  · rw [if_pos (Int32.lt_iff_toInt_lt.mpr (by omega)), Nat.max_eq_right (by omega)]
    exact (nI_pred p).symm
  · rw [Nat.max_eq_left (by omega)]
    by_cases q2 : nI h - 1 < nI p
    · exact absurd (Int32.lt_iff_toInt_lt.mp q2) (by omega)
    · exact if_neg q2
theorem k_hlt {h p : Nat} (hh : h ≤ 300) (hp : p < 1000) : nI p < nI h - 1 ↔ p < h - 1 := by
  have e1 : (nI h - 1).toInt = (h : Int) - 1 := pk_sub_toInt (b := 1) (by omega) (by omega)
  have e2 : (nI p).toInt = (p : Int) := nI_toInt (by omega)
  rw [Int32.lt_iff_toInt_lt]
  omega
theorem k_hle {h p : Nat} (hh : h ≤ 300) (hp : p < 1000) : nI h - 1 ≤ nI p ↔ h - 1 ≤ p := by
  have e1 : (nI h - 1).toInt = (h : Int) - 1 := pk_sub_toInt (b := 1) (by omega) (by omega)
  have e2 : (nI p).toInt = (p : Int) := nI_toInt (by omega)
  rw [Int32.le_iff_toInt_le]
  omega
theorem k_maxl {u h : Nat} (hh : h ≤ 300) (hu : u < 300) : (if nI u < nI h - 1 then nI h - 1 else nI u) = nI (max u (h - 1)) := by
  by_cases q : u < h - 1
  · rw [if_pos ((k_hlt hh (by omega)).mpr q), Nat.max_eq_right (by omega)]
    exact pk_sub (b := 1) (by omega)
  · rw [if_neg (fun z => q ((k_hlt hh (by omega)).mp z)), Nat.max_eq_left (by omega)]
