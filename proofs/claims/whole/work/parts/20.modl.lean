/-! the check's own object: its ring that turns -/
def MR (a : AS) (hd : Nat) (rg cm : Nat → Int32) : Prop := hd < 32 ∧ ∀ k, k < a.1 4 → rg ((hd + k) % 32) = a.2 0 k ∧ cm ((hd + k) % 32) = a.2 1 k
theorem MR_lost {a : AS} {hd : Nat} {rg cm : Nat → Int32} {x : Int32} (h : MR a hd rg cm) (hn : ¬ a.1 4 < a.1 0) : MR (a_come x a) hd rg cm := by
  rw [a_come_f hn]; exact h
theorem MR_come {a : AS} {hd : Nat} {rg cm : Nat → Int32} {x : Int32} (h : MR a hd rg cm) (hn : a.1 4 < a.1 0) (h0 : a.1 0 ≤ 32) : MR (a_come x a) hd (upd rg ((hd + a.1 4) % 32) x) (upd cm ((hd + a.1 4) % 32) (nI (a.1 7))) := by
  rw [a_come_t hn]
  refine ⟨h.1, fun k hk => ?_⟩
  have hk : k < a.1 4 + 1 := hk
  have hd32 := h.1
  show upd rg ((hd + a.1 4) % 32) x ((hd + k) % 32) = upd (a.2 0) (a.1 4) x k ∧ upd cm ((hd + a.1 4) % 32) (nI (a.1 7)) ((hd + k) % 32) = upd (a.2 1) (a.1 4) (nI (a.1 7)) k
  by_cases e : k = a.1 4
  · subst e
    exact ⟨upd_s.trans upd_s.symm, upd_s.trans upd_s.symm⟩
  · have e2 : ¬ (hd + k) % 32 = (hd + a.1 4) % 32 := by omega
    rw [upd_n e2, upd_n e2, upd_n e, upd_n e]
    exact h.2 k (by omega)
theorem MR_take {a : AS} {hd : Nat} {rg cm : Nat → Int32} {j pol : Nat} (h : MR a hd rg cm) (hj : j ≤ a.1 4) : MR (a_take j pol a) ((hd + j) % 32) rg cm := by
  refine ⟨Nat.mod_lt _ (by decide), fun k hk => ?_⟩
  have hk : k < a.1 4 - j := hk
  show rg (((hd + j) % 32 + k) % 32) = shf (a.2 0) (a.1 4) j k ∧ cm (((hd + j) % 32 + k) % 32) = shf (a.2 1) (a.1 4) j k
  rw [show ((hd + j) % 32 + k) % 32 = (hd + (k + j)) % 32 by omega]
  unfold shf shp
  rw [if_pos hk, if_pos hk]
  exact h.2 (k + j) (by omega)
theorem in299 {x : Int32} : (¬ x < nI 0 ∧ ¬ nI 299 < x) ↔ inR x 300 := by
  have e0 : (nI 0).toInt = 0 := by decide
  have e1 : (nI 299).toInt = 299 := by decide
  have e2 : (nI 300).toInt = 300 := by decide
  have e3 : (0 : Int32).toInt = 0 := by decide
  unfold inR
  rw [Int32.lt_iff_toInt_lt, Int32.lt_iff_toInt_lt, Int32.lt_iff_toInt_lt, Int32.le_iff_toInt_le, e0, e1, e2, e3]
  omega
theorem inAsk {x : Int32} {n : Nat} (hn : n < 2 ^ 31) : (¬ x < nI 0 ∧ ¬ (nI n - nI 1) < x) ↔ (¬ x < 0 ∧ x < nI n) := by
  by_cases h0 : x < 0
  · exact ⟨fun h => absurd h0 h.1, fun h => absurd h0 h.1⟩
  · obtain ⟨j, hj, rfl⟩ := nI_of h0
    have e1 : (nI j).toInt = j := nI_toInt hj
    have e2 : (nI n).toInt = n := nI_toInt hn
    rcases Nat.eq_zero_or_pos n with e | e
    · subst e
      have e3 : (nI 0 - nI 1).toInt = -1 := by decide
      have e4 : (nI 0).toInt = 0 := by decide
      have e5 : (0 : Int32).toInt = 0 := by decide
      simp only [Int32.lt_iff_toInt_lt, e3, e4, e5, e1]
      omega
    · rw [pk_sub e]
      have e3 : (nI (n - 1)).toInt = ((n - 1 : Nat) : Int) := nI_toInt (by omega)
      have e4 : (nI 0).toInt = 0 := by decide
      have e5 : (0 : Int32).toInt = 0 := by decide
      simp only [Int32.lt_iff_toInt_lt, e1, e2, e3, e4, e5]
      omega
theorem k_dec (x : Int32) : x + Int32.ofInt (-1) = x - 1 := by
  rw [Int32.sub_eq_add_neg]; rfl
theorem askS_skip {a : AS} {p : Nat} (h : p < a.1 13 ∨ ¬ (a.2 2 p = 0 ∧ a.1 11 ≤ p / 3)) : a_askS a (p + 1 - a.1 13) = a_askS a (p - a.1 13) := by
  by_cases e : p < a.1 13
  · rw [show p + 1 - a.1 13 = p - a.1 13 by omega]
  · rw [show p + 1 - a.1 13 = (p - a.1 13) + 1 by omega]
    refine a_askS_f ?_
    rw [show a.1 13 + (p - a.1 13) = p by omega]
    exact h.elim (fun z => absurd z e) id
theorem askS_take {a : AS} {p : Nat} (e : a.1 13 ≤ p) (h : a.2 2 p = 0 ∧ a.1 11 ≤ p / 3) : a_askS a (p + 1 - a.1 13) = ((a_askS a (p - a.1 13)).1 + 1, upd (a_askS a (p - a.1 13)).2.1 (a_askS a (p - a.1 13)).1 (nI p), upd (a_askS a (p - a.1 13)).2.2 p (nI 1)) := by
  have h9 := a_askS_t (a := a) (k := p - a.1 13) (by rw [show a.1 13 + (p - a.1 13) = p by omega]; exact h)
  rw [show a.1 13 + (p - a.1 13) = p by omega] at h9
  rw [show p + 1 - a.1 13 = (p - a.1 13) + 1 by omega]
  exact h9
theorem askS_was {a : AS} {p : Nat} : (a_askS a (p - a.1 13)).2.2 p = a.2 3 p := by
  by_cases e : p < a.1 13
  · exact askW (s := (a.1 8, a.2 4, a.2 3)) _ (Or.inr e)
  · exact askW (s := (a.1 8, a.2 4, a.2 3)) _ (Or.inl (by omega))
theorem askS_lt {a : AS} {p : Nat} (h8 : a.1 8 ≤ a.1 13) (h : a.1 13 ≤ p) : (a_askS a (p - a.1 13)).1 ≤ p := by
  have h9 := askS_le (had := a.2 2) (nx := a.1 11) (lu := a.1 13) (a.1 8, a.2 4, a.2 3) (p - a.1 13)
  have h9 : (a_askS a (p - a.1 13)).1 ≤ a.1 8 + (p - a.1 13) := h9
  omega
/-- how many are shown -/
def cntS (f : Nat → Int32) : Nat → Nat
  | 0 => 0
  | k + 1 => if f k = nI 1 then cntS f k + 1 else cntS f k
theorem cntS_le (f : Nat → Int32) : ∀ k : Nat, cntS f k ≤ k
  | 0 => Nat.le_refl _
  | k + 1 => by
    have := cntS_le f k
    unfold cntS
    split <;> omega
theorem cntS_same {f g : Nat → Int32} : ∀ k : Nat, (∀ j, j < k → f j = g j) → cntS f k = cntS g k
  | 0, _ => rfl
  | k + 1, h => by
    unfold cntS
    rw [h k (by omega), cntS_same k (fun j hj => h j (by omega))]
theorem cntS_upd {f : Nat → Int32} {i : Nat} {x : Int32} (h0 : ¬ f i = nI 1) : ∀ k : Nat, i < k → cntS (upd f i x) k = (if x = nI 1 then cntS f k + 1 else cntS f k)
  | 0, h => by omega
  | k + 1, h => by
    by_cases e : i = k
    · subst e
      unfold cntS
      rw [upd_s, if_neg h0, cntS_same (g := f) i (fun j hj => upd_n (by omega))]
    · unfold cntS
      rw [upd_n (show ¬ k = i by omega), cntS_upd h0 k (by omega)]
      by_cases hx : x = nI 1
      · rw [if_pos hx, if_pos hx]; split <;> rfl
      · rw [if_neg hx, if_neg hx]
/-- the shown ones are counted, and nothing is shown ahead of its turn -/
def AJ (a : AS) : Prop := a.1 15 = cntS (a.2 5) 100 ∧ ∀ f, a.1 11 ≤ f → ¬ a.2 5 f = nI 1
theorem b01 {P : Prop} [Decidable P] {b : Nat} (hb : b = if P then 1 else 0) : (b ≠ 0 → P) ∧ (b = 0 → ¬ P) ∧ (b = 0 ∨ b = 1) := by
  by_cases h : P
  · rw [if_pos h] at hb; subst hb; exact ⟨fun _ => h, fun z => absurd z (by decide), Or.inr rfl⟩
  · rw [if_neg h] at hb; subst hb; exact ⟨fun z => absurd rfl z, fun _ => h, Or.inl rfl⟩
theorem a_play_ring (b : AS) : (a_play b).1 4 = b.1 4 ∧ (a_play b).2 0 = b.2 0 ∧ (a_play b).2 1 = b.2 1 := by
  unfold a_play
  split <;> split <;> exact ⟨rfl, rfl, rfl⟩
theorem MR_pass {a : AS} {hd : Nat} {rg cm : Nat → Int32} (h : MR a hd rg cm) : MR (a_pass a) ((hd + a_many a) % 32) rg cm := by
  have h1 : MR (a_drive a) ((hd + a_many a) % 32) rg cm := MR_take h (a_many_le a)
  obtain ⟨e1, e2, e3⟩ := a_play_ring (a_ask (a_drive a))
  refine ⟨h1.1, fun k hk => ?_⟩
  have hk : k < (a_play (a_ask (a_drive a))).1 4 := hk
  show rg (((hd + a_many a) % 32 + k) % 32) = (a_play (a_ask (a_drive a))).2 0 k ∧ cm (((hd + a_many a) % 32 + k) % 32) = (a_play (a_ask (a_drive a))).2 1 k
  rw [e1] at hk
  rw [e2, e3]
  exact h1.2 k hk
theorem cldB_iff {had : Nat → Int32} {k : Nat} (hk : k < 100) : cldB had k ↔ (whl had k ∧ (k % 6 = 0 ∨ cldB had (bef k)) ∧ (k % 3 = 0 ∨ whl had (beh k))) := by
  unfold cldB
  by_cases h6 : k % 6 = 0
  · have h3 : k % 3 = 0 := by omega
    exact ⟨fun h => ⟨h.1, Or.inl h6, Or.inl h3⟩, fun h => ⟨h.1, Or.inl h6, Or.inl h3⟩⟩
  · by_cases h3 : k % 3 = 0
    · have e : bef k = k - 3 := by unfold bef; rw [if_pos h3]
      have e6 : (k - 3) % 6 = 0 := by omega
      have e3 : (k - 3) % 3 = 0 := by omega
      rw [e]
      exact ⟨fun h => ⟨h.1, Or.inr ⟨(h.2.1.elim (fun z => absurd z h6) id).1, Or.inl e6, Or.inl e3⟩, Or.inl h3⟩, fun h => ⟨h.1, Or.inr ⟨(h.2.1.elim (fun z => absurd z h6) id).1, Or.inl e6⟩, Or.inl h3⟩⟩
    · have e : bef k = k - k % 3 := by unfold bef; rw [if_neg h3]
      have e2 : beh k = k - k % 3 + 3 := rfl
      rw [e, e2]
      generalize hb : k - k % 3 = b
      have b3 : b % 3 = 0 := by omega
      have eb : bef b = b - 3 := by unfold bef; rw [if_pos b3]
      have eh : bef (b + 3) = b := by unfold bef; rw [if_pos (by omega)]; omega
      constructor
      · intro h
        have h1 := h.2.1.elim (fun z => absurd z h6) id
        have h2 := h.2.2.elim (fun z => absurd z h3) id
        refine ⟨h.1, Or.inr ⟨h1.1, ?_, Or.inl b3⟩, Or.inr h2.1⟩
        rcases h1.2 with z | z
        · exact Or.inl z
        · by_cases b6 : b % 6 = 0
          · exact Or.inl b6
          · exact Or.inr ⟨z, Or.inl (by rw [eb]; omega)⟩
      · intro h
        have h1 := h.2.1.elim (fun z => absurd z h6) id
        have h2 := h.2.2.elim (fun z => absurd z h3) id
        exact ⟨h.1, Or.inr ⟨h1.1, h1.2.1.imp_right (fun z => z.1)⟩, Or.inr ⟨h2, Or.inr (by rw [eh]; exact h1.1)⟩⟩
theorem bef_s {k : Nat} (h : ¬ k % 6 = 0) : bef k < k := by
  unfold bef
  split <;> omega
theorem nI_p1 {h : Nat} (e : 0 < h) : nI h - 1 = nI (h - 1) := pk_sub (b := 1) e
