/-! WHAT A STATE IS: numbers 0 size, 1 join, 2 patience, 3 load, 4 how many wait, 5 polled, 6 lost, 7 tick, 8 how many were asked for, 9 begun, 10 its tick, 11 next frame, 12 tick of the next turn, 13 looked up to, 14 highest that is had and 1, 15 shown; rows 0 packets that wait, 1 their ticks, 2 had, 3 was asked for, 4 asked for, 5 fates -/
abbrev AS : Type := (Nat → Nat) × (Nat → Nat → Int32)
def sN (a : AS) (k v : Nat) : AS := (va_up a.1 k v, a.2)
def sA (a : AS) (k : Nat) (f : Nat → Int32) : AS := (a.1, va_up a.2 k f)
abbrev inR (p : Int32) (N : Nat) : Prop := ¬ p < 0 ∧ ¬ nI N ≤ p
theorem inR_nI {p : Int32} {N : Nat} (hN : N < 2 ^ 31) (h : inR p N) : ∃ k : Nat, k < N ∧ p = nI k := by
  rcases pk_ix p hN with q | q | q
  · exact absurd q h.1
  · exact absurd q h.2
  · exact q
theorem nI_inR {k N : Nat} (hN : N < 2 ^ 31) (h : k < N) : inR (nI k) N := ⟨nI_pos (by omega), fun q => by have := (nI_leI hN (by omega)).mp q; omega⟩
theorem nI_inR_iff {k N : Nat} (hN : N < 2 ^ 31) (hk : k < 2 ^ 31) : inR (nI k) N ↔ k < N := ⟨fun h => by
  rcases Nat.lt_or_ge k N with q | q
  · exact q
  · exact absurd (nI_le q hk) h.2, nI_inR hN⟩
def a_come (p : Int32) (a : AS) : AS := if a.1 4 < a.1 0 then sN (sA (sA a 0 (upd (a.2 0) (a.1 4) p)) 1 (upd (a.2 1) (a.1 4) (nI (a.1 7)))) 4 (a.1 4 + 1) else sN a 6 (a.1 6 + 1)
def a_row (f : Nat) : Nat → AS → AS
  | 0, a => a
  | k + 1, a => a_come (nI (f + k)) (a_row f k a)
def a_rowN (f : Nat) : Nat → AS → Nat
  | 0, _ => 0
  | k + 1, a => if (a_row f k a).1 4 < (a_row f k a).1 0 then a_rowN f k a else a_rowN f k a + 1
abbrev a_due (a : AS) : Prop := a.1 1 ≤ a.1 4 ∨ (0 < a.1 4 ∧ nI (a.1 2) ≤ nI (a.1 7) - a.2 1 0)
def a_many (a : AS) : Nat := if a.1 5 = 0 then (if a_due a then a.1 4 else 0) else min (a.1 4) 6
def a_polN (a : AS) : Nat := if a.1 5 = 0 then (if a_due a then (if a.1 3 ≤ a.1 4 then 1 else 0) else 0) else (if 0 < a.1 4 then 1 else 0)
def tkH (Q h : Nat → Int32) : Nat → Nat → Int32
  | 0 => h
  | k + 1 => upd (tkH Q h k) (Q k).toNatClampNeg (nI 1)
def tkP (Q : Nat → Int32) (hp : Nat) : Nat → Nat
  | 0 => hp
  | k + 1 => max (tkP Q hp k) ((Q k).toNatClampNeg + 1)
def shp (f : Nat → Int32) (k i : Nat) : Nat → Int32 := fun j => if j < i then f (j + k) else f j
def shf (f : Nat → Int32) (n k : Nat) : Nat → Int32 := shp f k (n - k)
def a_take (k pol : Nat) (a : AS) : AS := sN (sN (sN (sA (sA (sA a 0 (shf (a.2 0) (a.1 4) k)) 1 (shf (a.2 1) (a.1 4) k)) 2 (tkH (a.2 0) (a.2 2) k)) 4 (a.1 4 - k)) 5 pol) 14 (tkP (a.2 0) (a.1 14) k)
/-- what is left in the ring -/
def a_rest (k : Nat) (a : AS) : AS := sN (sA (sA a 0 (shf (a.2 0) (a.1 4) k)) 1 (shf (a.2 1) (a.1 4) k)) 4 (a.1 4 - k)
def a_drive (a : AS) : AS := a_take (a_many a) (a_polN a) a
def askS (had : Nat → Int32) (nx lu : Nat) : Nat → Nat × (Nat → Int32) × (Nat → Int32) → Nat × (Nat → Int32) × (Nat → Int32)
  | 0, s => s
  | k + 1, s => if had (lu + k) = 0 ∧ nx ≤ (lu + k) / 3 then ((askS had nx lu k s).1 + 1, upd (askS had nx lu k s).2.1 (askS had nx lu k s).1 (nI (lu + k)), upd (askS had nx lu k s).2.2 (lu + k) (nI 1)) else askS had nx lu k s
def a_askS (a : AS) (k : Nat) : Nat × (Nat → Int32) × (Nat → Int32) := askS (a.2 2) (a.1 11) (a.1 13) k (a.1 8, a.2 4, a.2 3)
def a_askK (a : AS) (k : Nat) : AS := sN (sA (sA a 4 (a_askS a k).2.1) 3 (a_askS a k).2.2) 8 (a_askS a k).1
def a_ask (a : AS) : AS := sN (a_askK a (a.1 14 - 1 - a.1 13)) 13 (max (a.1 13) (a.1 14 - 1))
abbrev whl (had : Nat → Int32) (f : Nat) : Prop := had (3 * f) ≠ 0 ∧ had (3 * f + 1) ≠ 0 ∧ had (3 * f + 2) ≠ 0
def fillN (had : Nat → Int32) : Nat → Nat → Nat
  | 0, _ => 0
  | k + 1, f => if whl had f then fillN had k (f + 1) + 1 else 0
def bef (f : Nat) : Nat := if f % 3 = 0 then f - 3 else f - f % 3
def beh (f : Nat) : Nat := f - f % 3 + 3
abbrev sndB (had fate : Nat → Int32) (f : Nat) : Prop := (f % 6 = 0 ∨ fate (bef f) = nI 1) ∧ (f % 3 = 0 ∨ whl had (beh f))
def outc (had fate : Nat → Int32) (f : Nat) : Nat := if whl had f then (if sndB had fate f then 1 else 3) else 2
def pac (k : Nat) : Nat := if 6 ≤ k then 9 else if k ≤ 1 then 11 else 10
def a_out (a : AS) : Nat := outc (a.2 2) (a.2 5) (a.1 11)
def a_fill (a : AS) : Nat := fillN (a.2 2) (100 - a.1 11) (a.1 11)
/-- the frame has its turn, but for the tick of the next -/
def a_turn0 (a : AS) : AS := sN (sN (sA a 5 (upd (a.2 5) (a.1 11) (nI (a_out a)))) 15 (if a_out a = 1 then a.1 15 + 1 else a.1 15)) 11 (a.1 11 + 1)
def a_turn (a : AS) : AS := sN (a_turn0 a) 12 (a.1 7 + pac (a_fill (a_turn0 a)))
def a_begin (a : AS) : AS := sN (sN a 9 1) 10 (a.1 7)
def a_play (a : AS) : AS := if a.1 9 = 0 then (if whl (a.2 2) 0 ∧ whl (a.2 2) 1 ∧ whl (a.2 2) 2 then a_turn (a_begin a) else a) else if a.1 11 < 100 ∧ a.1 12 = a.1 7 then a_turn a else a
def a_pass (a : AS) : AS := sN (a_play (a_ask (a_drive a))) 7 (a.1 7 + 1)
def a_adv : Nat → AS → AS
  | 0, a => a
  | k + 1, a => a_pass (a_adv k a)
def a_set (sz jn pt ld : Nat) (a : AS) : AS := sN (sN (sN (sN a 0 sz) 1 jn) 2 pt) 3 ld
def a_reset (a : AS) : AS := sN (sN (sN a 6 (a.1 6 + a.1 4)) 4 0) 5 0
/-- could be shown by now -/
abbrev cldA (had : Nat → Int32) (g : Nat) : Prop := whl had g ∧ (g % 6 = 0 ∨ whl had (bef g))
abbrev cldB (had : Nat → Int32) (f : Nat) : Prop := whl had f ∧ (f % 6 = 0 ∨ cldA had (bef f)) ∧ (f % 3 = 0 ∨ cldA had (beh f))
def cldN (had : Nat → Int32) : Nat → Nat
  | 0 => 0
  | k + 1 => if cldB had k then cldN had k + 1 else cldN had k
/-- what holds of every state that comes up -/
def AI (a : AS) : Prop := (a.1 0 ≤ 32 ∧ a.1 4 ≤ 32 ∧ a.1 5 ≤ 1 ∧ a.1 7 ≤ 20000 ∧ a.1 9 ≤ 1 ∧ a.1 10 ≤ 20000 ∧ a.1 11 ≤ 100 ∧ a.1 12 ≤ 30000) ∧ (a.1 1 ≤ 32 ∧ a.1 2 ≤ 50 ∧ a.1 3 ≤ 32) ∧ (a.1 8 ≤ a.1 13 ∧ a.1 13 ≤ 299 ∧ a.1 14 ≤ 300) ∧ (∀ k, k < a.1 4 → vp_in (a.2 0 k) 300) ∧ (∀ p, p < 300 → a.1 14 ≤ p → a.2 2 p = 0) ∧ (0 < a.1 14 → a.2 2 (a.1 14 - 1) ≠ 0) ∧ (∀ p, a.1 13 ≤ p → a.2 3 p = 0) ∧ (∀ p, p < a.1 13 → a.2 2 p ≠ 0 ∨ a.2 3 p ≠ 0 ∨ p / 3 < a.1 11) ∧ (a.1 9 = 0 → a.1 11 = 0)
/-! the worlds -/
abbrev RWa (cI : ClassId) (q : Nat → Nat) (a : AS) : va_W := [(q 1, .inr (1, [.ref (q 10), .ref (q 11), .int (nI (a.1 4)), .int (nI (a.1 0)), .int (nI (a.1 1)), .int (nI (a.1 2)), .int (nI (a.1 3)), .int (nI (a.1 5)), .int (nI (a.1 6))])), (q 10, .inl (cI, 32, .inl (a.2 0))), (q 11, .inl (cI, 32, .inl (a.2 1)))]
abbrev SWa (cI cZ : ClassId) (q : Nat → Nat) (a : AS) : va_W := [(q 2, .inr (2, [.ref (q 20), .ref (q 21), .int (nI (a.1 8)), .int (nI (a.1 14) - 1), .int (nI (a.1 13))])), (q 20, .inl (cZ, 300, .inl (a.2 2))), (q 21, .inl (cI, 300, .inl (a.2 4)))]
def bT (a : AS) : Int32 := if a.1 9 = 0 then -1 else nI (a.1 10)
def tT (a : AS) : Int32 := if a.1 9 = 0 ∨ 100 ≤ a.1 11 then -1 else nI (a.1 12)
/-- the film, its two ticks apart -/
abbrev FWb (cI : ClassId) (q : Nat → Nat) (a : AS) (b t : Int32) : va_W := [(q 3, .inr (0, [.ref (q 2), .ref (q 31), .int (nI (a.1 11)), .int b, .int t, .int (nI (a.1 15))])), (q 31, .inl (cI, 100, .inl (a.2 5)))]
abbrev FWa (cI : ClassId) (q : Nat → Nat) (a : AS) : va_W := FWb cI q a (bT a) (tT a)
abbrev PWa (q : Nat → Nat) (a : AS) : va_W := [(q 0, .inr (3, [.ref (q 1), .ref (q 2), .ref (q 3), .int (nI (a.1 7))]))]
abbrev XWa (cI cZ : ClassId) (q : Nat → Nat) (a : AS) : va_W := PWa q a ++ (RWa cI q a ++ (SWa cI cZ q a ++ FWa cI q a))
/-- the check's object: its ring turns (hd, rg, cm), its last exception th, its scratch row co -/
abbrev MW (cI cZ : ClassId) (q : Nat → Nat) (a : AS) (hd : Nat) (rg cm : Nat → Int32) (th : Nat) (co : Nat → Int32) : va_W := [(q 50, .inr (4, [.int (nI (a.1 0)), .int (nI (a.1 1)), .int (nI (a.1 2)), .int (nI (a.1 3)), .ref (q 54), .ref (q 55), .int (nI hd), .int (nI (a.1 4)), .int (nI (a.1 5)), .int (nI (a.1 6)), .int (nI (a.1 7)), .ref (q 61), .ref (q 62), .ref (q 63), .int (nI (a.1 8)), .ref (q 65), .ref (q 66), .int (nI (a.1 9)), .int (nI (a.1 10)), .int (nI (a.1 11)), .int (nI (a.1 12)), .int (nI th)])), (q 54, .inl (cI, 32, .inl rg)), (q 55, .inl (cI, 32, .inl cm)), (q 61, .inl (cZ, 300, .inl (a.2 2))), (q 62, .inl (cZ, 300, .inl (a.2 3))), (q 63, .inl (cI, 300, .inl (a.2 4))), (q 65, .inl (cI, 100, .inl (a.2 5))), (q 66, .inl (cZ, 100, .inl co))]
