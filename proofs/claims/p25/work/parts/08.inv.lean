/-! what holds goes on holding -/
theorem nI1_ne : ¬ nI 1 = 0 := by decide
theorem upd_s {f : Nat → Int32} {k : Nat} {x : Int32} : upd f k x k = x := if_pos rfl
theorem upd_n {f : Nat → Int32} {k j : Nat} {x : Int32} (h : ¬ j = k) : upd f k x j = f j := if_neg h
theorem AI_come {a : AS} (x : Int32) (hx : vp_in x 300) (hI : AI a) : AI (a_come x a) := by
  obtain ⟨⟨i0, i4, i5, i7, i9, i10, i11, i12⟩, ⟨i1, i2, i3⟩, ⟨i8, i13, i14⟩, iQ, iH0, iH1, iW0, iW1, iN⟩ := hI
  by_cases h : a.1 4 < a.1 0
  · rw [a_come_t h]
    refine ⟨⟨i0, ?_, i5, i7, i9, i10, i11, i12⟩, ⟨i1, i2, i3⟩, ⟨i8, i13, i14⟩, ?_, iH0, iH1, iW0, iW1, iN⟩
    · show a.1 4 + 1 ≤ 32
      omega
    · intro k hk
      have hk : k < a.1 4 + 1 := hk
      show vp_in (upd (a.2 0) (a.1 4) x k) 300
      by_cases e : k = a.1 4
      · rw [e, upd_s]; exact hx
      · rw [upd_n e]; exact iQ k (by omega)
  · rw [a_come_f h]
    exact ⟨⟨i0, i4, i5, i7, i9, i10, i11, i12⟩, ⟨i1, i2, i3⟩, ⟨i8, i13, i14⟩, iQ, iH0, iH1, iW0, iW1, iN⟩
theorem AI_row {a : AS} {f : Nat} (hI : AI a) : ∀ k : Nat, f + k ≤ 300 → AI (a_row f k a)
  | 0, _ => hI
  | k + 1, h => AI_come _ (vp_in_nI (by omega) (by decide)) (AI_row hI k (by omega))
theorem a_many_le (a : AS) : a_many a ≤ a.1 4 := by
  unfold a_many
  split
  · split <;> omega
  · exact Nat.min_le_left _ _
theorem a_polN_le (a : AS) : a_polN a ≤ 1 := by
  unfold a_polN
  split
  · split
    · split <;> omega
    · omega
  · split <;> omega
theorem tkP_le {Q : Nat → Int32} {hp : Nat} (h : hp ≤ 300) : ∀ k : Nat, (∀ j, j < k → vp_in (Q j) 300) → tkP Q hp k ≤ 300
  | 0, _ => h
  | k + 1, hq => by
    have h1 := tkP_le (Q := Q) h k (fun j hj => hq j (by omega))
    have h2 := vp_lt (hq k (by omega)) (by decide)
    show max (tkP Q hp k) ((Q k).toNatClampNeg + 1) ≤ 300
    omega
theorem tkH_0 {Q h : Nat → Int32} {hp : Nat} (h0 : ∀ p, p < 300 → hp ≤ p → h p = 0) : ∀ k p : Nat, p < 300 → tkP Q hp k ≤ p → tkH Q h k p = 0
  | 0, p, h1, h2 => h0 p h1 h2
  | k + 1, p, h1, h2 => by
    have h2 : max (tkP Q hp k) ((Q k).toNatClampNeg + 1) ≤ p := h2
    show upd (tkH Q h k) (Q k).toNatClampNeg (nI 1) p = 0
    rw [upd_n (by omega)]
    exact tkH_0 h0 k p h1 (by omega)
theorem tkH_1 {Q h : Nat → Int32} {hp : Nat} (h1 : 0 < hp → h (hp - 1) ≠ 0) : ∀ k : Nat, 0 < tkP Q hp k → tkH Q h k (tkP Q hp k - 1) ≠ 0
  | 0, h2 => h1 h2
  | k + 1, h2 => by
    show upd (tkH Q h k) (Q k).toNatClampNeg (nI 1) (max (tkP Q hp k) ((Q k).toNatClampNeg + 1) - 1) ≠ 0
    by_cases e : max (tkP Q hp k) ((Q k).toNatClampNeg + 1) - 1 = (Q k).toNatClampNeg
    · rw [e, upd_s]; exact nI1_ne
    · rw [upd_n e, show max (tkP Q hp k) ((Q k).toNatClampNeg + 1) - 1 = tkP Q hp k - 1 by omega]
      exact tkH_1 h1 k (by omega)
theorem tkH_m {Q h : Nat → Int32} {p : Nat} (h1 : h p ≠ 0) : ∀ k : Nat, tkH Q h k p ≠ 0
  | 0 => h1
  | k + 1 => by
    show upd (tkH Q h k) (Q k).toNatClampNeg (nI 1) p ≠ 0
    by_cases e : p = (Q k).toNatClampNeg
    · rw [e, upd_s]; exact nI1_ne
    · rw [upd_n e]; exact tkH_m h1 k
theorem AI_drive {a : AS} (hI : AI a) : AI (a_drive a) := by
  obtain ⟨⟨i0, i4, i5, i7, i9, i10, i11, i12⟩, ⟨i1, i2, i3⟩, ⟨i8, i13, i14⟩, iQ, iH0, iH1, iW0, iW1, iN⟩ := hI
  have hm := a_many_le a
  refine ⟨⟨i0, ?_, a_polN_le a, i7, i9, i10, i11, i12⟩, ⟨i1, i2, i3⟩, ⟨i8, i13, tkP_le i14 _ (fun j hj => iQ j (by omega))⟩, ?_, fun p hp h => tkH_0 iH0 _ p hp h, fun h => tkH_1 iH1 _ h, iW0, ?_, iN⟩
  · show a.1 4 - a_many a ≤ 32
    omega
  · intro k hk
    have hk : k < a.1 4 - a_many a := hk
    show vp_in (if k < a.1 4 - a_many a then a.2 0 (k + a_many a) else a.2 0 k) 300
    rw [if_pos hk]
    exact iQ _ (by omega)
  · intro p hp
    exact (iW1 p hp).elim (fun h => Or.inl (tkH_m h _)) Or.inr
theorem askW {had : Nat → Int32} {nx lu : Nat} {s : Nat × (Nat → Int32) × (Nat → Int32)} {p : Nat} : ∀ k : Nat, (lu + k ≤ p ∨ p < lu) → (askS had nx lu k s).2.2 p = s.2.2 p
  | 0, _ => rfl
  | k + 1, h => by
    have ih := askW (had := had) (nx := nx) (s := s) (p := p) (lu := lu) k (by omega)
    unfold askS
    split
    · show upd (askS had nx lu k s).2.2 (lu + k) (nI 1) p = s.2.2 p
      rw [upd_n (by omega)]; exact ih
    · exact ih
theorem askW1 {had : Nat → Int32} {nx lu : Nat} {s : Nat × (Nat → Int32) × (Nat → Int32)} {p : Nat} (h0 : lu ≤ p) (h1 : had p = 0) (h2 : nx ≤ p / 3) : ∀ k : Nat, p < lu + k → (askS had nx lu k s).2.2 p = nI 1
  | 0, h => by omega
  | k + 1, h => by
    unfold askS
    by_cases e : p = lu + k
    · subst e
      rw [if_pos ⟨h1, h2⟩]
      exact upd_s
    · have ih := askW1 (had := had) (nx := nx) (s := s) (p := p) (lu := lu) h0 h1 h2 k (by omega)
      split
      · show upd (askS had nx lu k s).2.2 (lu + k) (nI 1) p = nI 1
        rw [upd_n (by omega)]; exact ih
      · exact ih
theorem AI_ask {a : AS} (hI : AI a) : AI (a_ask a) := by
  obtain ⟨⟨i0, i4, i5, i7, i9, i10, i11, i12⟩, ⟨i1, i2, i3⟩, ⟨i8, i13, i14⟩, iQ, iH0, iH1, iW0, iW1, iN⟩ := hI
  have hs := askS_le (had := a.2 2) (nx := a.1 11) (lu := a.1 13) (a.1 8, a.2 4, a.2 3) (a.1 14 - 1 - a.1 13)
  have hs : (askS (a.2 2) (a.1 11) (a.1 13) (a.1 14 - 1 - a.1 13) (a.1 8, a.2 4, a.2 3)).1 ≤ a.1 8 + (a.1 14 - 1 - a.1 13) := hs
  refine ⟨⟨i0, i4, i5, i7, i9, i10, i11, i12⟩, ⟨i1, i2, i3⟩, ⟨?_, ?_, i14⟩, iQ, iH0, iH1, ?_, ?_, iN⟩
  · show (askS (a.2 2) (a.1 11) (a.1 13) (a.1 14 - 1 - a.1 13) (a.1 8, a.2 4, a.2 3)).1 ≤ max (a.1 13) (a.1 14 - 1)
    omega
  · show max (a.1 13) (a.1 14 - 1) ≤ 299
    omega
  · intro p hp
    have hp : max (a.1 13) (a.1 14 - 1) ≤ p := hp
    show (askS (a.2 2) (a.1 11) (a.1 13) (a.1 14 - 1 - a.1 13) (a.1 8, a.2 4, a.2 3)).2.2 p = 0
    rw [askW _ (Or.inl (by omega))]
    exact iW0 p (by omega)
  · intro p hp
    have hp : p < max (a.1 13) (a.1 14 - 1) := hp
    show a.2 2 p ≠ 0 ∨ (askS (a.2 2) (a.1 11) (a.1 13) (a.1 14 - 1 - a.1 13) (a.1 8, a.2 4, a.2 3)).2.2 p ≠ 0 ∨ p / 3 < a.1 11
    by_cases e : p < a.1 13
    · rw [askW _ (Or.inr e)]
      exact iW1 p e
    · by_cases h1 : a.2 2 p = 0
      · by_cases h2 : a.1 11 ≤ p / 3
        · rw [askW1 (by omega) h1 h2 _ (by omega)]
          exact Or.inr (Or.inl nI1_ne)
        · exact Or.inr (Or.inr (by omega))
      · exact Or.inl h1
theorem pac_le (k : Nat) : pac k ≤ 11 := by
  unfold pac
  split
  · decide
  · split <;> decide
theorem AI_turn {a : AS} (hI : AI a) (h9 : ¬ a.1 9 = 0) (h11 : a.1 11 < 100) : AI (a_turn a) := by
  obtain ⟨⟨i0, i4, i5, i7, i9, i10, i11, i12⟩, ⟨i1, i2, i3⟩, ⟨i8, i13, i14⟩, iQ, iH0, iH1, iW0, iW1, iN⟩ := hI
  refine ⟨⟨i0, i4, i5, i7, i9, i10, h11, ?_⟩, ⟨i1, i2, i3⟩, ⟨i8, i13, i14⟩, iQ, iH0, iH1, iW0, ?_, fun h => absurd h h9⟩
  · show a.1 7 + pac (a_fill (a_turn0 a)) ≤ 30000
    have := pac_le (a_fill (a_turn0 a))
    omega
  · intro p hp
    exact (iW1 p hp).imp_right (fun h => h.imp_right (fun h => Nat.lt_succ_of_lt h))
theorem AI_begin {a : AS} (hI : AI a) : AI (a_begin a) := by
  obtain ⟨⟨i0, i4, i5, i7, i9, i10, i11, i12⟩, ⟨i1, i2, i3⟩, ⟨i8, i13, i14⟩, iQ, iH0, iH1, iW0, iW1, iN⟩ := hI
  exact ⟨⟨i0, i4, i5, i7, Nat.le_refl 1, i7, i11, i12⟩, ⟨i1, i2, i3⟩, ⟨i8, i13, i14⟩, iQ, iH0, iH1, iW0, iW1, fun h => absurd h (show ¬ 1 = 0 by decide)⟩
theorem AI_play {a : AS} (hI : AI a) : AI (a_play a) := by
  unfold a_play
  by_cases h9 : a.1 9 = 0
  · rw [if_pos h9]
    split
    · exact AI_turn (AI_begin hI) (show ¬ 1 = 0 by decide) (show a.1 11 < 100 by have := hI.2.2.2.2.2.2.2.2 h9; omega)
    · exact hI
  · rw [if_neg h9]
    split
    · next h => exact AI_turn hI h9 h.1
    · exact hI
theorem a_play_7 (a : AS) : (a_play a).1 7 = a.1 7 := by
  unfold a_play
  split <;> split <;> rfl
theorem AI_tick {a : AS} (hI : AI a) (t : Nat) (h : t ≤ 20000) : AI (sN a 7 t) := by
  obtain ⟨⟨i0, i4, i5, i7, i9, i10, i11, i12⟩, ⟨i1, i2, i3⟩, ⟨i8, i13, i14⟩, iQ, iH0, iH1, iW0, iW1, iN⟩ := hI
  exact ⟨⟨i0, i4, i5, h, i9, i10, i11, i12⟩, ⟨i1, i2, i3⟩, ⟨i8, i13, i14⟩, iQ, iH0, iH1, iW0, iW1, iN⟩
theorem AI_pass {a : AS} (hI : AI a) (h : a.1 7 < 20000) : AI (a_pass a) := AI_tick (AI_play (AI_ask (AI_drive hI))) _ h
theorem a_adv_7 (a : AS) : ∀ k : Nat, (a_adv k a).1 7 = a.1 7 + k
  | 0 => rfl
  | k + 1 => by
    show (a_adv k a).1 7 + 1 = a.1 7 + (k + 1)
    rw [a_adv_7 a k]; rfl
theorem AI_adv {a : AS} (hI : AI a) : ∀ k : Nat, a.1 7 + k ≤ 20000 → AI (a_adv k a)
  | 0, _ => hI
  | k + 1, h => AI_pass (AI_adv hI k (by omega)) (by rw [a_adv_7]; omega)
theorem AI_set {a : AS} (hI : AI a) {sz jn pt ld : Nat} (h0 : sz ≤ 32) (h1 : jn ≤ 32) (h2 : pt ≤ 50) (h3 : ld ≤ 32) : AI (a_set sz jn pt ld a) := by
  obtain ⟨⟨i0, i4, i5, i7, i9, i10, i11, i12⟩, ⟨i1, i2, i3⟩, ⟨i8, i13, i14⟩, iQ, iH0, iH1, iW0, iW1, iN⟩ := hI
  exact ⟨⟨h0, i4, i5, i7, i9, i10, i11, i12⟩, ⟨h1, h2, h3⟩, ⟨i8, i13, i14⟩, iQ, iH0, iH1, iW0, iW1, iN⟩
theorem AI_reset {a : AS} (hI : AI a) : AI (a_reset a) := by
  obtain ⟨⟨i0, i4, i5, i7, i9, i10, i11, i12⟩, ⟨i1, i2, i3⟩, ⟨i8, i13, i14⟩, iQ, iH0, iH1, iW0, iW1, iN⟩ := hI
  exact ⟨⟨i0, Nat.zero_le _, Nat.zero_le _, i7, i9, i10, i11, i12⟩, ⟨i1, i2, i3⟩, ⟨i8, i13, i14⟩, fun k hk => absurd hk (Nat.not_lt_zero k), iH0, iH1, iW0, iW1, iN⟩
/-! what stays where it is -/
theorem XW_come {cI cZ : ClassId} {q : Nat → Nat} {a : AS} {x : Int32} : XWa cI cZ q (a_come x a) = PWa q a ++ (RWa cI q (a_come x a) ++ (SWa cI cZ q a ++ FWa cI q a)) := by
  by_cases h : a.1 4 < a.1 0
  · rw [a_come_t h]; rfl
  · rw [a_come_f h]; rfl
theorem RW_play {cI : ClassId} {q : Nat → Nat} {a : AS} : RWa cI q (a_play a) = RWa cI q a := by
  unfold a_play
  split <;> split <;> rfl
