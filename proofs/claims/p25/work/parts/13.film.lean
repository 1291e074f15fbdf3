/-! the film -/
set_option maxHeartbeats 4000000 in
set_option maxRecDepth 100000 in
theorem c_X0_canBegin (l : Launch) (D : va_G) (cI cZ : ClassId) (q : Nat → Nat) (a : AS) (b9 t9 : Int32) : kMi l yX0_canBegin wsX0_canBegin 1 22 D (TY cI cZ) [.ref (q 3)] [(q 3, .inr (0, [.ref (q 2), .ref (q 31), .int (nI (a.1 11)), .int b9, .int t9, .int (nI (a.1 15))])), (q 31, .inl (cI, 100, .inl (a.2 5))), (q 2, .inr (2, [.ref (q 20), .ref (q 21), .int (nI (a.1 8)), .int (nI (a.1 14) - 1), .int (nI (a.1 13))])), (q 20, .inl (cZ, 300, .inl (a.2 2))), (q 21, .inl (cI, 300, .inl (a.2 4)))] (fun (r : Int32) (_ : Unit) => r = (if whl (a.2 2) 0 ∧ whl (a.2 2) 1 ∧ whl (a.2 2) 2 then nI 1 else nI 0)) (fun (_ : Unit) => FWb cI q a b9 t9 ++ SWa cI cZ q a) := by
  intro sz
  refine k_in (Qc := fun A => va_Qi (fun (r : Int32) (_ : Unit) => r = (if whl (a.2 2) 0 ∧ whl (a.2 2) 1 ∧ whl (a.2 2) 2 then nI 1 else nI 0)) (kB D A (fun (_ : Unit) => FWb cI q a b9 t9 ++ SWa cI cZ q a)) A) (cc := cX0_canBegin) (maxL := 2) (ret := (some .boolean)) (by decide) rfl (Nat.le_of_ble_eq_true rfl) ?_
  intro p e s m below meth c A ls hfix hr hlk hN hP hK hD hA hS hl
  have hfix : CallFix p m c cX0_canBegin 2 s [.ref (q 3)].toArray wsX0_canBegin RX0 := hfix
  have hl : lv_has ls 2 [(0, .ref (q 3))] := hl
  obtain ⟨hx, hb, hml, hown, hts⟩ := id hfix
  have hinX0 : ∀ w ∈ wsX00, w ∈ wsX0_canBegin := fun _ h => List.mem_cons_of_mem _ (List.mem_append_left _ (List.mem_append_right _ h))
  have hP : va_P D vwCl [(q 3, .inr (0, [.ref (q 2), .ref (q 31), .int (nI (a.1 11)), .int b9, .int t9, .int (nI (a.1 15))])), (q 31, .inl (cI, 100, .inl (a.2 5))), (q 2, .inr (2, [.ref (q 20), .ref (q 21), .int (nI (a.1 8)), .int (nI (a.1 14) - 1), .int (nI (a.1 13))])), (q 20, .inl (cZ, 300, .inl (a.2 2))), (q 21, .inl (cI, 300, .inl (a.2 4)))] s.heap := hP
  have hD : va_D A [(q 3, .inr (0, [.ref (q 2), .ref (q 31), .int (nI (a.1 11)), .int b9, .int t9, .int (nI (a.1 15))])), (q 31, .inl (cI, 100, .inl (a.2 5))), (q 2, .inr (2, [.ref (q 20), .ref (q 21), .int (nI (a.1 8)), .int (nI (a.1 14) - 1), .int (nI (a.1 13))])), (q 20, .inl (cZ, 300, .inl (a.2 2))), (q 21, .inl (cI, 300, .inl (a.2 4)))] := hD
  have hS : ∃ (H : Heap) (locs : List Loc), H = s.heap ∧ locs = [] ∧ va_S A s.heap H locs := ⟨_, _, rfl, rfl, hS⟩
  obtain ⟨H, locs, hH, hlocs, hS⟩ := hS
  rw [← hH] at hP
  suffices hW9 : W p l e ({ frames := 1, cells := 0, slots := 0, locals := 22 } : Room) s m [.ref (q 3)].toArray below meth c H locs 0 0 (MQ below (va_Qi (fun (r : Int32) (_ : Unit) => r = (if whl (a.2 2) 0 ∧ whl (a.2 2) 1 ∧ whl (a.2 2) 2 then nI 1 else nI 0)) (kB D A (fun (_ : Unit) => FWb cI q a b9 t9 ++ SWa cI cZ q a)) A) [.ref (q 3)].toArray s 0 0 A) (F0 m 0 ls []) by rw [hH, hlocs] at hW9; exact hW9
  clear hH hlocs
  have at2 : ∀ (n9 : Nat) (i : Nat) (hf9 : (3 - i) < n9) (hi : i ≤ 3) (hj : ∀ j, j < i → whl (a.2 2) j) (H : Heap) (locs : List Loc) (ls : Array Slot) (hP : va_P D vwCl [(q 3, .inr (0, [.ref (q 2), .ref (q 31), .int (nI (a.1 11)), .int b9, .int t9, .int (nI (a.1 15))])), (q 31, .inl (cI, 100, .inl (a.2 5))), (q 2, .inr (2, [.ref (q 20), .ref (q 21), .int (nI (a.1 8)), .int (nI (a.1 14) - 1), .int (nI (a.1 13))])), (q 20, .inl (cZ, 300, .inl (a.2 2))), (q 21, .inl (cI, 300, .inl (a.2 4)))] H) (hD : va_D A [(q 3, .inr (0, [.ref (q 2), .ref (q 31), .int (nI (a.1 11)), .int b9, .int t9, .int (nI (a.1 15))])), (q 31, .inl (cI, 100, .inl (a.2 5))), (q 2, .inr (2, [.ref (q 20), .ref (q 21), .int (nI (a.1 8)), .int (nI (a.1 14) - 1), .int (nI (a.1 13))])), (q 20, .inl (cZ, 300, .inl (a.2 2))), (q 21, .inl (cI, 300, .inl (a.2 4)))]) (hS : va_S A s.heap H locs) (hl : lv_has ls 2 [(0, .ref (q 3)), (1, .int (nI i))]), W p l e ({ frames := 1, cells := 0, slots := 0, locals := 22 } : Room) s m [.ref (q 3)].toArray below meth c H locs 0 0 (MQ below (va_Qi (fun (r : Int32) (_ : Unit) => r = (if whl (a.2 2) 0 ∧ whl (a.2 2) 1 ∧ whl (a.2 2) 2 then nI 1 else nI 0)) (kB D A (fun (_ : Unit) => FWb cI q a b9 t9 ++ SWa cI cZ q a)) A) [.ref (q 3)].toArray s 0 0 A) (F0 m 2 ls []) := by
    intro n9
    induction n9 with
    | zero => intro i hf9 hi hj H locs ls hP hD hS hl; exact absurd hf9 (Nat.not_lt_zero _)
    | succ n9 ih9 =>
      intro i hf9 hi hj H locs ls hP hD hS hl
      refine lv_iload_n hx hb dX0_canBegin_2 rfl (lv_at hl 1 rfl) ?_
      refine lv_iconst (v := nI 3) hx hb dX0_canBegin_3 (by decide) ?_
      refine k_icmp_ge (tgt := 26) hx hb (by omega) (by omega) dX0_canBegin_4 (by decide) (fun c_4 => ?_) (fun c_4 => ?_)
      · -- c_4 taken
        refine lv_iconst (v := nI 1) hx hb dX0_canBegin_26 (by decide) ?_
        exact k_iret (v := nI 1) hx hb hr hlk (by decide) () ((if_pos ⟨hj 0 (by omega), hj 1 (by omega), hj 2 (by omega)⟩).symm) hP hD hS dX0_canBegin_27
      · -- c_4 not taken
        refine lv_aload_n hx hb dX0_canBegin_7 rfl (lv_at hl 0 rfl) ?_
        refine va_get (D := D) (ci := 0) (v := .ref (q 2)) (C := RX0) (T := TX0) (N := 6) hx hb hts hinX0 hown hK hP 0 rfl rfl 0 (by decide) (hts _ (List.mem_of_getElem? (i := 1) rfl)) (fun _ h9 => h9) rfl dX0_canBegin_8 ?_
        refine lv_iload_n hx hb dX0_canBegin_11 rfl (lv_at hl 1 rfl) ?_
        refine k_callVi (n := 1) (wr := [(q 3, .inr (0, [.ref (q 2), .ref (q 31), .int (nI (a.1 11)), .int b9, .int t9, .int (nI (a.1 15))])), (q 31, .inl (cI, 100, .inl (a.2 5)))]) (As := [.int (nI i)]) (rest := []) hfix hN hK hP hD hS hA hl.1 (c_X2_holdsFrame l D cI cZ q a i (by omega)) gX0_canBegin_X2_holdsFrame rfl (by decide +kernel) rfl ⟨Nat.le_of_ble_eq_true rfl, Nat.le_of_ble_eq_true rfl⟩ [2, 3, 4] [0, 1] rfl rfl (by decide) (by decide) (by decide) 2 rfl rfl rfl (Nat.le_of_ble_eq_true rfl) ⟨Nat.zero_le _, Nat.zero_le _⟩ dX0_canBegin_12 (fun r_12 u H locs hw_12 hP hD hS => ?_)
        have hP : va_P D vwCl [(q 3, .inr (0, [.ref (q 2), .ref (q 31), .int (nI (a.1 11)), .int b9, .int t9, .int (nI (a.1 15))])), (q 31, .inl (cI, 100, .inl (a.2 5))), (q 2, .inr (2, [.ref (q 20), .ref (q 21), .int (nI (a.1 8)), .int (nI (a.1 14) - 1), .int (nI (a.1 13))])), (q 20, .inl (cZ, 300, .inl (a.2 2))), (q 21, .inl (cI, 300, .inl (a.2 4)))] H := hP.sub [0, 1, 2, 3, 4] rfl
        have hD : va_D A [(q 3, .inr (0, [.ref (q 2), .ref (q 31), .int (nI (a.1 11)), .int b9, .int t9, .int (nI (a.1 15))])), (q 31, .inl (cI, 100, .inl (a.2 5))), (q 2, .inr (2, [.ref (q 20), .ref (q 21), .int (nI (a.1 8)), .int (nI (a.1 14) - 1), .int (nI (a.1 13))])), (q 20, .inl (cZ, 300, .inl (a.2 2))), (q 21, .inl (cI, 300, .inl (a.2 4)))] := hD.sub [0, 1, 2, 3, 4] (by decide) rfl
        by_cases e_12 : whl (a.2 2) i
        · rw [if_pos e_12] at hw_12
          obtain rfl : r_12 = nI 1 := hw_12
          refine k_if_ne (tgt := 20) hx hb (by decide) dX0_canBegin_15 (by decide) (fun _ => ?_) (fun q => absurd q (by decide))
          refine lv_iinc (v := nI (i + 1)) (lv' := [(1, .int (nI (i + 1))), (0, .ref (q 3))]) hx hb dX0_canBegin_20 hl (k := 1) rfl (nI_add i 1) (by decide) rfl (fun ls hl => ?_)
          refine lv_goto (tgt := 2) hx hb dX0_canBegin_23 (by decide) ?_
          exact ih9 (i + 1) (by omega) (by omega) (lt_s hj e_12) H locs ls hP hD hS (lv_sub hl [1, 0] rfl)
        · rw [if_neg e_12] at hw_12
          obtain rfl : r_12 = nI 0 := hw_12
          refine k_if_ne (tgt := 20) hx hb (by decide) dX0_canBegin_15 (by decide) (fun q => absurd q (by decide)) (fun _ => ?_)
          refine lv_iconst (v := nI 0) hx hb dX0_canBegin_18 (by decide) ?_
          exact k_iret (v := nI 0) hx hb hr hlk (by decide) () ((if_neg (fun h => e_12 (by rcases (show i = 0 ∨ i = 1 ∨ i = 2 by omega) with rfl | rfl | rfl; exact h.1; exact h.2.1; exact h.2.2))).symm) hP hD hS dX0_canBegin_19
  refine lv_iconst (v := nI 0) hx hb dX0_canBegin_0 (by decide) ?_
  refine lv_istore_n (lv' := [(1, .int (nI 0)), (0, .ref (q 3))]) hx hb dX0_canBegin_1 rfl hl (by decide) rfl (fun ls hl => ?_)
  exact at2 _ 0 (Nat.lt_succ_self _) (by omega) (fun j h => absurd h (Nat.not_lt_zero j)) H locs ls hP hD hS (lv_sub hl [1, 0] rfl)
set_option maxHeartbeats 4000000 in
set_option maxRecDepth 100000 in
theorem c_X0_wasShown (l : Launch) (D : va_G) (cI cZ : ClassId) (q : Nat → Nat) (a : AS) (b9 t9 : Int32) (f : Nat) (hf : f < 100) : kMi l yX0_wasShown wsX0_wasShown 1 20 D (TY cI cZ) [.ref (q 3), .int (nI f)] [(q 3, .inr (0, [.ref (q 2), .ref (q 31), .int (nI (a.1 11)), .int b9, .int t9, .int (nI (a.1 15))])), (q 31, .inl (cI, 100, .inl (a.2 5)))] (fun (r : Int32) (_ : Unit) => r = (if a.2 5 f = nI 1 then nI 1 else nI 0)) (fun (_ : Unit) => FWb cI q a b9 t9) := by
  intro sz
  refine k_in (Qc := fun A => va_Qi (fun (r : Int32) (_ : Unit) => r = (if a.2 5 f = nI 1 then nI 1 else nI 0)) (kB D A (fun (_ : Unit) => FWb cI q a b9 t9)) A) (cc := cX0_wasShown) (maxL := 2) (ret := (some .boolean)) (by decide) rfl (Nat.le_of_ble_eq_true rfl) ?_
  intro p e s m below meth c A ls hfix hr hlk hN hP hK hD hA hS hl
  have hfix : CallFix p m c cX0_wasShown 2 s [.ref (q 3), .int (nI f)].toArray wsX0_wasShown RX0 := hfix
  have hl : lv_has ls 2 [(0, .ref (q 3)), (1, .int (nI f))] := hl
  obtain ⟨hx, hb, hml, hown, hts⟩ := id hfix
  have hinX0 : ∀ w ∈ wsX00, w ∈ wsX0_wasShown := fun _ h => List.mem_cons_of_mem _ (List.mem_append_right _ h)
  have hP : va_P D vwCl [(q 3, .inr (0, [.ref (q 2), .ref (q 31), .int (nI (a.1 11)), .int b9, .int t9, .int (nI (a.1 15))])), (q 31, .inl (cI, 100, .inl (a.2 5)))] s.heap := hP
  have hD : va_D A [(q 3, .inr (0, [.ref (q 2), .ref (q 31), .int (nI (a.1 11)), .int b9, .int t9, .int (nI (a.1 15))])), (q 31, .inl (cI, 100, .inl (a.2 5)))] := hD
  have hS : ∃ (H : Heap) (locs : List Loc), H = s.heap ∧ locs = [] ∧ va_S A s.heap H locs := ⟨_, _, rfl, rfl, hS⟩
  obtain ⟨H, locs, hH, hlocs, hS⟩ := hS
  rw [← hH] at hP
  suffices hW9 : W p l e ({ frames := 1, cells := 0, slots := 0, locals := 20 } : Room) s m [.ref (q 3), .int (nI f)].toArray below meth c H locs 0 0 (MQ below (va_Qi (fun (r : Int32) (_ : Unit) => r = (if a.2 5 f = nI 1 then nI 1 else nI 0)) (kB D A (fun (_ : Unit) => FWb cI q a b9 t9)) A) [.ref (q 3), .int (nI f)].toArray s 0 0 A) (F0 m 0 ls []) by rw [hH, hlocs] at hW9; exact hW9
  clear hH hlocs
  refine lv_iload_n hx hb dX0_wasShown_0 rfl (lv_at hl 1 rfl) ?_
  refine k_callNi (n := 1) (As := [.int (nI f)]) (rest := []) hfix hN hK hP hD hS hA hl.1 (c_X3_isFrame l D cI cZ (nI f)) (fun _ => rfl) gX0_wasShown_X3_isFrame_n50 rfl hN.m50 (hts _ (List.mem_of_getElem? (i := 3) rfl)) (hts _ (List.mem_of_getElem? (i := 2) rfl)) (by decide +kernel) rfl ⟨Nat.le_of_ble_eq_true rfl, Nat.le_of_ble_eq_true rfl⟩ [0, 1] rfl (by decide) rfl (Nat.le_of_ble_eq_true rfl) ⟨Nat.zero_le _, Nat.zero_le _⟩ dX0_wasShown_1 (fun r_1 u H locs hw_1 hP hD hS => ?_)
  have e_1 : (inR (nI f) 100) := (nI_inR (by decide) hf)
  rw [if_pos e_1] at hw_1
  obtain rfl : r_1 = nI 1 := hw_1
  refine k_if_eq (tgt := 21) hx hb (by decide) dX0_wasShown_4 (by decide) (fun q => absurd q (by decide)) (fun _ => ?_)
  refine lv_aload_n hx hb dX0_wasShown_7 rfl (lv_at hl 0 rfl) ?_
  refine va_get (D := D) (ci := 0) (v := .ref (q 31)) (C := RX0) (T := TX0) (N := 6) hx hb hts hinX0 hown hK hP 0 rfl rfl 1 (by decide) (hts _ (List.mem_of_getElem? (i := 1) rfl)) (fun _ h9 => h9) rfl dX0_wasShown_8 ?_
  refine lv_iload_n hx hb dX0_wasShown_11 rfl (lv_at hl 1 rfl) ?_
  refine k_iald hx hb hK hP 1 0 rfl rfl (by omega) (Nat.le_of_ble_eq_true rfl) dX0_wasShown_12 ?_
  refine lv_iconst (v := nI 1) hx hb dX0_wasShown_13 (by decide) ?_
  refine lv_icmp_ne (tgt := 21) hx hb dX0_wasShown_14 (by decide) (fun c_14 => ?_) (fun c_14 => ?_)
  · -- c_14 taken
    refine lv_iconst (v := nI 0) hx hb dX0_wasShown_21 (by decide) ?_
    exact k_iret (v := nI 0) hx hb hr hlk (by decide) () ((if_neg c_14).symm) hP hD hS dX0_wasShown_22
  · -- c_14 not taken
    refine lv_iconst (v := nI 1) hx hb dX0_wasShown_17 (by decide) ?_
    refine lv_goto (tgt := 22) hx hb dX0_wasShown_18 (by decide) ?_
    exact k_iret (v := nI 1) hx hb hr hlk (by decide) () ((if_pos c_14).symm) hP hD hS dX0_wasShown_22
set_option maxHeartbeats 4000000 in
set_option maxRecDepth 100000 in
theorem c_X0_isWholeIfAny0 (l : Launch) (D : va_G) (cI cZ : ClassId) (q : Nat → Nat) (a : AS) (b9 t9 : Int32) : kMi l yX0_isWholeIfAny wsX0_isWholeIfAny 1 22 D (TY cI cZ) [.ref (q 3), .int (-1)] [(q 3, .inr (0, [.ref (q 2), .ref (q 31), .int (nI (a.1 11)), .int b9, .int t9, .int (nI (a.1 15))])), (q 31, .inl (cI, 100, .inl (a.2 5))), (q 2, .inr (2, [.ref (q 20), .ref (q 21), .int (nI (a.1 8)), .int (nI (a.1 14) - 1), .int (nI (a.1 13))])), (q 20, .inl (cZ, 300, .inl (a.2 2))), (q 21, .inl (cI, 300, .inl (a.2 4)))] (fun (r : Int32) (_ : Unit) => r = nI 1) (fun (_ : Unit) => FWb cI q a b9 t9 ++ SWa cI cZ q a) := by
  intro sz
  refine k_in (Qc := fun A => va_Qi (fun (r : Int32) (_ : Unit) => r = nI 1) (kB D A (fun (_ : Unit) => FWb cI q a b9 t9 ++ SWa cI cZ q a)) A) (cc := cX0_isWholeIfAny) (maxL := 2) (ret := (some .boolean)) (by decide) rfl (Nat.le_of_ble_eq_true rfl) ?_
  intro p e s m below meth c A ls hfix hr hlk hN hP hK hD hA hS hl
  have hfix : CallFix p m c cX0_isWholeIfAny 2 s [.ref (q 3), .int (-1)].toArray wsX0_isWholeIfAny RX0 := hfix
  have hl : lv_has ls 2 [(0, .ref (q 3)), (1, .int (-1))] := hl
  obtain ⟨hx, hb, hml, hown, hts⟩ := id hfix
  have hP : va_P D vwCl [(q 3, .inr (0, [.ref (q 2), .ref (q 31), .int (nI (a.1 11)), .int b9, .int t9, .int (nI (a.1 15))])), (q 31, .inl (cI, 100, .inl (a.2 5))), (q 2, .inr (2, [.ref (q 20), .ref (q 21), .int (nI (a.1 8)), .int (nI (a.1 14) - 1), .int (nI (a.1 13))])), (q 20, .inl (cZ, 300, .inl (a.2 2))), (q 21, .inl (cI, 300, .inl (a.2 4)))] s.heap := hP
  have hD : va_D A [(q 3, .inr (0, [.ref (q 2), .ref (q 31), .int (nI (a.1 11)), .int b9, .int t9, .int (nI (a.1 15))])), (q 31, .inl (cI, 100, .inl (a.2 5))), (q 2, .inr (2, [.ref (q 20), .ref (q 21), .int (nI (a.1 8)), .int (nI (a.1 14) - 1), .int (nI (a.1 13))])), (q 20, .inl (cZ, 300, .inl (a.2 2))), (q 21, .inl (cI, 300, .inl (a.2 4)))] := hD
  have hS : ∃ (H : Heap) (locs : List Loc), H = s.heap ∧ locs = [] ∧ va_S A s.heap H locs := ⟨_, _, rfl, rfl, hS⟩
  obtain ⟨H, locs, hH, hlocs, hS⟩ := hS
  rw [← hH] at hP
  suffices hW9 : W p l e ({ frames := 1, cells := 0, slots := 0, locals := 22 } : Room) s m [.ref (q 3), .int (-1)].toArray below meth c H locs 0 0 (MQ below (va_Qi (fun (r : Int32) (_ : Unit) => r = nI 1) (kB D A (fun (_ : Unit) => FWb cI q a b9 t9 ++ SWa cI cZ q a)) A) [.ref (q 3), .int (-1)].toArray s 0 0 A) (F0 m 0 ls []) by rw [hH, hlocs] at hW9; exact hW9
  clear hH hlocs
  refine lv_iload_n hx hb dX0_isWholeIfAny_0 rfl (lv_at hl 1 rfl) ?_
  refine lv_iconst (v := (-1)) hx hb dX0_isWholeIfAny_1 (by decide) ?_
  refine lv_icmp_eq (tgt := 16) hx hb dX0_isWholeIfAny_2 (by decide) (fun c_2 => ?_) (fun c_2 => absurd c_2 (fun h => h rfl))
  refine lv_iconst (v := nI 1) hx hb dX0_isWholeIfAny_16 (by decide) ?_
  refine lv_goto (tgt := 21) hx hb dX0_isWholeIfAny_17 (by decide) ?_
  exact k_iret (v := nI 1) hx hb hr hlk (by decide) () rfl hP hD hS dX0_isWholeIfAny_21
set_option maxHeartbeats 4000000 in
set_option maxRecDepth 100000 in
theorem c_X0_isWholeIfAny (l : Launch) (D : va_G) (cI cZ : ClassId) (q : Nat → Nat) (a : AS) (b9 t9 : Int32) (f : Nat) (hf : f < 100) : kMi l yX0_isWholeIfAny wsX0_isWholeIfAny 1 22 D (TY cI cZ) [.ref (q 3), .int (nI f)] [(q 3, .inr (0, [.ref (q 2), .ref (q 31), .int (nI (a.1 11)), .int b9, .int t9, .int (nI (a.1 15))])), (q 31, .inl (cI, 100, .inl (a.2 5))), (q 2, .inr (2, [.ref (q 20), .ref (q 21), .int (nI (a.1 8)), .int (nI (a.1 14) - 1), .int (nI (a.1 13))])), (q 20, .inl (cZ, 300, .inl (a.2 2))), (q 21, .inl (cI, 300, .inl (a.2 4)))] (fun (r : Int32) (_ : Unit) => r = (if whl (a.2 2) f then nI 1 else nI 0)) (fun (_ : Unit) => FWb cI q a b9 t9 ++ SWa cI cZ q a) := by
  intro sz
  refine k_in (Qc := fun A => va_Qi (fun (r : Int32) (_ : Unit) => r = (if whl (a.2 2) f then nI 1 else nI 0)) (kB D A (fun (_ : Unit) => FWb cI q a b9 t9 ++ SWa cI cZ q a)) A) (cc := cX0_isWholeIfAny) (maxL := 2) (ret := (some .boolean)) (by decide) rfl (Nat.le_of_ble_eq_true rfl) ?_
  intro p e s m below meth c A ls hfix hr hlk hN hP hK hD hA hS hl
  have hfix : CallFix p m c cX0_isWholeIfAny 2 s [.ref (q 3), .int (nI f)].toArray wsX0_isWholeIfAny RX0 := hfix
  have hl : lv_has ls 2 [(0, .ref (q 3)), (1, .int (nI f))] := hl
  obtain ⟨hx, hb, hml, hown, hts⟩ := id hfix
  have hinX0 : ∀ w ∈ wsX00, w ∈ wsX0_isWholeIfAny := fun _ h => List.mem_cons_of_mem _ (List.mem_append_left _ (List.mem_append_right _ h))
  have hP : va_P D vwCl [(q 3, .inr (0, [.ref (q 2), .ref (q 31), .int (nI (a.1 11)), .int b9, .int t9, .int (nI (a.1 15))])), (q 31, .inl (cI, 100, .inl (a.2 5))), (q 2, .inr (2, [.ref (q 20), .ref (q 21), .int (nI (a.1 8)), .int (nI (a.1 14) - 1), .int (nI (a.1 13))])), (q 20, .inl (cZ, 300, .inl (a.2 2))), (q 21, .inl (cI, 300, .inl (a.2 4)))] s.heap := hP
  have hD : va_D A [(q 3, .inr (0, [.ref (q 2), .ref (q 31), .int (nI (a.1 11)), .int b9, .int t9, .int (nI (a.1 15))])), (q 31, .inl (cI, 100, .inl (a.2 5))), (q 2, .inr (2, [.ref (q 20), .ref (q 21), .int (nI (a.1 8)), .int (nI (a.1 14) - 1), .int (nI (a.1 13))])), (q 20, .inl (cZ, 300, .inl (a.2 2))), (q 21, .inl (cI, 300, .inl (a.2 4)))] := hD
  have hS : ∃ (H : Heap) (locs : List Loc), H = s.heap ∧ locs = [] ∧ va_S A s.heap H locs := ⟨_, _, rfl, rfl, hS⟩
  obtain ⟨H, locs, hH, hlocs, hS⟩ := hS
  rw [← hH] at hP
  suffices hW9 : W p l e ({ frames := 1, cells := 0, slots := 0, locals := 22 } : Room) s m [.ref (q 3), .int (nI f)].toArray below meth c H locs 0 0 (MQ below (va_Qi (fun (r : Int32) (_ : Unit) => r = (if whl (a.2 2) f then nI 1 else nI 0)) (kB D A (fun (_ : Unit) => FWb cI q a b9 t9 ++ SWa cI cZ q a)) A) [.ref (q 3), .int (nI f)].toArray s 0 0 A) (F0 m 0 ls []) by rw [hH, hlocs] at hW9; exact hW9
  clear hH hlocs
  refine lv_iload_n hx hb dX0_isWholeIfAny_0 rfl (lv_at hl 1 rfl) ?_
  refine lv_iconst (v := (-1)) hx hb dX0_isWholeIfAny_1 (by decide) ?_
  refine lv_icmp_eq (tgt := 16) hx hb dX0_isWholeIfAny_2 (by decide) (fun c_2 => absurd c_2 (nI_m1 (by omega))) (fun c_2 => ?_)
  refine lv_aload_n hx hb dX0_isWholeIfAny_5 rfl (lv_at hl 0 rfl) ?_
  refine va_get (D := D) (ci := 0) (v := .ref (q 2)) (C := RX0) (T := TX0) (N := 6) hx hb hts hinX0 hown hK hP 0 rfl rfl 0 (by decide) (hts _ (List.mem_of_getElem? (i := 1) rfl)) (fun _ h9 => h9) rfl dX0_isWholeIfAny_6 ?_
  refine lv_iload_n hx hb dX0_isWholeIfAny_9 rfl (lv_at hl 1 rfl) ?_
  refine k_callVi (n := 1) (wr := [(q 3, .inr (0, [.ref (q 2), .ref (q 31), .int (nI (a.1 11)), .int b9, .int t9, .int (nI (a.1 15))])), (q 31, .inl (cI, 100, .inl (a.2 5)))]) (As := [.int (nI f)]) (rest := []) hfix hN hK hP hD hS hA hl.1 (c_X2_holdsFrame l D cI cZ q a f (by omega)) gX0_isWholeIfAny_X2_holdsFrame rfl (by decide +kernel) rfl ⟨Nat.le_of_ble_eq_true rfl, Nat.le_of_ble_eq_true rfl⟩ [2, 3, 4] [0, 1] rfl rfl (by decide) (by decide) (by decide) 2 rfl rfl rfl (Nat.le_of_ble_eq_true rfl) ⟨Nat.zero_le _, Nat.zero_le _⟩ dX0_isWholeIfAny_10 (fun r_10 u H locs hw_10 hP hD hS => ?_)
  have hP : va_P D vwCl [(q 3, .inr (0, [.ref (q 2), .ref (q 31), .int (nI (a.1 11)), .int b9, .int t9, .int (nI (a.1 15))])), (q 31, .inl (cI, 100, .inl (a.2 5))), (q 2, .inr (2, [.ref (q 20), .ref (q 21), .int (nI (a.1 8)), .int (nI (a.1 14) - 1), .int (nI (a.1 13))])), (q 20, .inl (cZ, 300, .inl (a.2 2))), (q 21, .inl (cI, 300, .inl (a.2 4)))] H := hP.sub [0, 1, 2, 3, 4] rfl
  have hD : va_D A [(q 3, .inr (0, [.ref (q 2), .ref (q 31), .int (nI (a.1 11)), .int b9, .int t9, .int (nI (a.1 15))])), (q 31, .inl (cI, 100, .inl (a.2 5))), (q 2, .inr (2, [.ref (q 20), .ref (q 21), .int (nI (a.1 8)), .int (nI (a.1 14) - 1), .int (nI (a.1 13))])), (q 20, .inl (cZ, 300, .inl (a.2 2))), (q 21, .inl (cI, 300, .inl (a.2 4)))] := hD.sub [0, 1, 2, 3, 4] (by decide) rfl
  by_cases e_10 : whl (a.2 2) f
  · rw [if_pos e_10] at hw_10
    obtain rfl : r_10 = nI 1 := hw_10
    refine k_if_eq (tgt := 20) hx hb (by decide) dX0_isWholeIfAny_13 (by decide) (fun q => absurd q (by decide)) (fun _ => ?_)
    refine lv_iconst (v := nI 1) hx hb dX0_isWholeIfAny_16 (by decide) ?_
    refine lv_goto (tgt := 21) hx hb dX0_isWholeIfAny_17 (by decide) ?_
    exact k_iret (v := nI 1) hx hb hr hlk (by decide) () ((if_pos e_10).symm) hP hD hS dX0_isWholeIfAny_21
  · rw [if_neg e_10] at hw_10
    obtain rfl : r_10 = nI 0 := hw_10
    refine k_if_eq (tgt := 20) hx hb (by decide) dX0_isWholeIfAny_13 (by decide) (fun _ => ?_) (fun q => absurd q (by decide))
    refine lv_iconst (v := nI 0) hx hb dX0_isWholeIfAny_20 (by decide) ?_
    exact k_iret (v := nI 0) hx hb hr hlk (by decide) () ((if_neg e_10).symm) hP hD hS dX0_isWholeIfAny_21
set_option maxHeartbeats 4000000 in
set_option maxRecDepth 100000 in
theorem c_X0_isAnchorShowable0 (l : Launch) (D : va_G) (cI cZ : ClassId) (q : Nat → Nat) (a : AS) (b9 t9 : Int32) : kMi l yX0_isAnchorShowable wsX0_isAnchorShowable 2 43 D (TY cI cZ) [.ref (q 3), .int (-1)] [(q 3, .inr (0, [.ref (q 2), .ref (q 31), .int (nI (a.1 11)), .int b9, .int t9, .int (nI (a.1 15))])), (q 31, .inl (cI, 100, .inl (a.2 5))), (q 2, .inr (2, [.ref (q 20), .ref (q 21), .int (nI (a.1 8)), .int (nI (a.1 14) - 1), .int (nI (a.1 13))])), (q 20, .inl (cZ, 300, .inl (a.2 2))), (q 21, .inl (cI, 300, .inl (a.2 4)))] (fun (r : Int32) (_ : Unit) => r = nI 1) (fun (_ : Unit) => FWb cI q a b9 t9 ++ SWa cI cZ q a) := by
  intro sz
  refine k_in (Qc := fun A => va_Qi (fun (r : Int32) (_ : Unit) => r = nI 1) (kB D A (fun (_ : Unit) => FWb cI q a b9 t9 ++ SWa cI cZ q a)) A) (cc := cX0_isAnchorShowable) (maxL := 2) (ret := (some .boolean)) (by decide) rfl (Nat.le_of_ble_eq_true rfl) ?_
  intro p e s m below meth c A ls hfix hr hlk hN hP hK hD hA hS hl
  have hfix : CallFix p m c cX0_isAnchorShowable 2 s [.ref (q 3), .int (-1)].toArray wsX0_isAnchorShowable RX0 := hfix
  have hl : lv_has ls 2 [(0, .ref (q 3)), (1, .int (-1))] := hl
  obtain ⟨hx, hb, hml, hown, hts⟩ := id hfix
  have hP : va_P D vwCl [(q 3, .inr (0, [.ref (q 2), .ref (q 31), .int (nI (a.1 11)), .int b9, .int t9, .int (nI (a.1 15))])), (q 31, .inl (cI, 100, .inl (a.2 5))), (q 2, .inr (2, [.ref (q 20), .ref (q 21), .int (nI (a.1 8)), .int (nI (a.1 14) - 1), .int (nI (a.1 13))])), (q 20, .inl (cZ, 300, .inl (a.2 2))), (q 21, .inl (cI, 300, .inl (a.2 4)))] s.heap := hP
  have hD : va_D A [(q 3, .inr (0, [.ref (q 2), .ref (q 31), .int (nI (a.1 11)), .int b9, .int t9, .int (nI (a.1 15))])), (q 31, .inl (cI, 100, .inl (a.2 5))), (q 2, .inr (2, [.ref (q 20), .ref (q 21), .int (nI (a.1 8)), .int (nI (a.1 14) - 1), .int (nI (a.1 13))])), (q 20, .inl (cZ, 300, .inl (a.2 2))), (q 21, .inl (cI, 300, .inl (a.2 4)))] := hD
  have hS : ∃ (H : Heap) (locs : List Loc), H = s.heap ∧ locs = [] ∧ va_S A s.heap H locs := ⟨_, _, rfl, rfl, hS⟩
  obtain ⟨H, locs, hH, hlocs, hS⟩ := hS
  rw [← hH] at hP
  suffices hW9 : W p l e ({ frames := 2, cells := 0, slots := 0, locals := 43 } : Room) s m [.ref (q 3), .int (-1)].toArray below meth c H locs 0 0 (MQ below (va_Qi (fun (r : Int32) (_ : Unit) => r = nI 1) (kB D A (fun (_ : Unit) => FWb cI q a b9 t9 ++ SWa cI cZ q a)) A) [.ref (q 3), .int (-1)].toArray s 0 0 A) (F0 m 0 ls []) by rw [hH, hlocs] at hW9; exact hW9
  clear hH hlocs
  refine lv_iload_n hx hb dX0_isAnchorShowable_0 rfl (lv_at hl 1 rfl) ?_
  refine lv_iconst (v := (-1)) hx hb dX0_isAnchorShowable_1 (by decide) ?_
  refine lv_icmp_eq (tgt := 27) hx hb dX0_isAnchorShowable_2 (by decide) (fun c_2 => ?_) (fun c_2 => absurd c_2 (fun h => h rfl))
  refine lv_iconst (v := nI 1) hx hb dX0_isAnchorShowable_27 (by decide) ?_
  refine lv_goto (tgt := 32) hx hb dX0_isAnchorShowable_28 (by decide) ?_
  exact k_iret (v := nI 1) hx hb hr hlk (by decide) () rfl hP hD hS dX0_isAnchorShowable_32
set_option maxHeartbeats 4000000 in
set_option maxRecDepth 100000 in
theorem c_X0_isAnchorShowable (l : Launch) (D : va_G) (cI cZ : ClassId) (q : Nat → Nat) (a : AS) (b9 t9 : Int32) (f : Nat) (hf : f < 100) : kMi l yX0_isAnchorShowable wsX0_isAnchorShowable 2 43 D (TY cI cZ) [.ref (q 3), .int (nI f)] [(q 3, .inr (0, [.ref (q 2), .ref (q 31), .int (nI (a.1 11)), .int b9, .int t9, .int (nI (a.1 15))])), (q 31, .inl (cI, 100, .inl (a.2 5))), (q 2, .inr (2, [.ref (q 20), .ref (q 21), .int (nI (a.1 8)), .int (nI (a.1 14) - 1), .int (nI (a.1 13))])), (q 20, .inl (cZ, 300, .inl (a.2 2))), (q 21, .inl (cI, 300, .inl (a.2 4)))] (fun (r : Int32) (_ : Unit) => r = (if cldA (a.2 2) f then nI 1 else nI 0)) (fun (_ : Unit) => FWb cI q a b9 t9 ++ SWa cI cZ q a) := by
  intro sz
  refine k_in (Qc := fun A => va_Qi (fun (r : Int32) (_ : Unit) => r = (if cldA (a.2 2) f then nI 1 else nI 0)) (kB D A (fun (_ : Unit) => FWb cI q a b9 t9 ++ SWa cI cZ q a)) A) (cc := cX0_isAnchorShowable) (maxL := 2) (ret := (some .boolean)) (by decide) rfl (Nat.le_of_ble_eq_true rfl) ?_
  intro p e s m below meth c A ls hfix hr hlk hN hP hK hD hA hS hl
  have hfix : CallFix p m c cX0_isAnchorShowable 2 s [.ref (q 3), .int (nI f)].toArray wsX0_isAnchorShowable RX0 := hfix
  have hl : lv_has ls 2 [(0, .ref (q 3)), (1, .int (nI f))] := hl
  obtain ⟨hx, hb, hml, hown, hts⟩ := id hfix
  have hinX0 : ∀ w ∈ wsX00, w ∈ wsX0_isAnchorShowable := fun _ h => List.mem_cons_of_mem _ (List.mem_append_left _ (List.mem_append_right _ h))
  have hP : va_P D vwCl [(q 3, .inr (0, [.ref (q 2), .ref (q 31), .int (nI (a.1 11)), .int b9, .int t9, .int (nI (a.1 15))])), (q 31, .inl (cI, 100, .inl (a.2 5))), (q 2, .inr (2, [.ref (q 20), .ref (q 21), .int (nI (a.1 8)), .int (nI (a.1 14) - 1), .int (nI (a.1 13))])), (q 20, .inl (cZ, 300, .inl (a.2 2))), (q 21, .inl (cI, 300, .inl (a.2 4)))] s.heap := hP
  have hD : va_D A [(q 3, .inr (0, [.ref (q 2), .ref (q 31), .int (nI (a.1 11)), .int b9, .int t9, .int (nI (a.1 15))])), (q 31, .inl (cI, 100, .inl (a.2 5))), (q 2, .inr (2, [.ref (q 20), .ref (q 21), .int (nI (a.1 8)), .int (nI (a.1 14) - 1), .int (nI (a.1 13))])), (q 20, .inl (cZ, 300, .inl (a.2 2))), (q 21, .inl (cI, 300, .inl (a.2 4)))] := hD
  have hS : ∃ (H : Heap) (locs : List Loc), H = s.heap ∧ locs = [] ∧ va_S A s.heap H locs := ⟨_, _, rfl, rfl, hS⟩
  obtain ⟨H, locs, hH, hlocs, hS⟩ := hS
  rw [← hH] at hP
  suffices hW9 : W p l e ({ frames := 2, cells := 0, slots := 0, locals := 43 } : Room) s m [.ref (q 3), .int (nI f)].toArray below meth c H locs 0 0 (MQ below (va_Qi (fun (r : Int32) (_ : Unit) => r = (if cldA (a.2 2) f then nI 1 else nI 0)) (kB D A (fun (_ : Unit) => FWb cI q a b9 t9 ++ SWa cI cZ q a)) A) [.ref (q 3), .int (nI f)].toArray s 0 0 A) (F0 m 0 ls []) by rw [hH, hlocs] at hW9; exact hW9
  clear hH hlocs
  refine lv_iload_n hx hb dX0_isAnchorShowable_0 rfl (lv_at hl 1 rfl) ?_
  refine lv_iconst (v := (-1)) hx hb dX0_isAnchorShowable_1 (by decide) ?_
  refine lv_icmp_eq (tgt := 27) hx hb dX0_isAnchorShowable_2 (by decide) (fun c_2 => absurd c_2 (nI_m1 (by omega))) (fun c_2 => ?_)
  refine lv_aload_n hx hb dX0_isAnchorShowable_5 rfl (lv_at hl 0 rfl) ?_
  refine va_get (D := D) (ci := 0) (v := .ref (q 2)) (C := RX0) (T := TX0) (N := 6) hx hb hts hinX0 hown hK hP 0 rfl rfl 0 (by decide) (hts _ (List.mem_of_getElem? (i := 1) rfl)) (fun _ h9 => h9) rfl dX0_isAnchorShowable_6 ?_
  refine lv_iload_n hx hb dX0_isAnchorShowable_9 rfl (lv_at hl 1 rfl) ?_
  refine k_callVi (n := 1) (wr := [(q 3, .inr (0, [.ref (q 2), .ref (q 31), .int (nI (a.1 11)), .int b9, .int t9, .int (nI (a.1 15))])), (q 31, .inl (cI, 100, .inl (a.2 5)))]) (As := [.int (nI f)]) (rest := []) hfix hN hK hP hD hS hA hl.1 (c_X2_holdsFrame l D cI cZ q a f (by omega)) gX0_isAnchorShowable_X2_holdsFrame rfl (by decide +kernel) rfl ⟨Nat.le_of_ble_eq_true rfl, Nat.le_of_ble_eq_true rfl⟩ [2, 3, 4] [0, 1] rfl rfl (by decide) (by decide) (by decide) 2 rfl rfl rfl (Nat.le_of_ble_eq_true rfl) ⟨Nat.zero_le _, Nat.zero_le _⟩ dX0_isAnchorShowable_10 (fun r_10 u H locs hw_10 hP hD hS => ?_)
  have hP : va_P D vwCl [(q 3, .inr (0, [.ref (q 2), .ref (q 31), .int (nI (a.1 11)), .int b9, .int t9, .int (nI (a.1 15))])), (q 31, .inl (cI, 100, .inl (a.2 5))), (q 2, .inr (2, [.ref (q 20), .ref (q 21), .int (nI (a.1 8)), .int (nI (a.1 14) - 1), .int (nI (a.1 13))])), (q 20, .inl (cZ, 300, .inl (a.2 2))), (q 21, .inl (cI, 300, .inl (a.2 4)))] H := hP.sub [0, 1, 2, 3, 4] rfl
  have hD : va_D A [(q 3, .inr (0, [.ref (q 2), .ref (q 31), .int (nI (a.1 11)), .int b9, .int t9, .int (nI (a.1 15))])), (q 31, .inl (cI, 100, .inl (a.2 5))), (q 2, .inr (2, [.ref (q 20), .ref (q 21), .int (nI (a.1 8)), .int (nI (a.1 14) - 1), .int (nI (a.1 13))])), (q 20, .inl (cZ, 300, .inl (a.2 2))), (q 21, .inl (cI, 300, .inl (a.2 4)))] := hD.sub [0, 1, 2, 3, 4] (by decide) rfl
  by_cases e_10 : whl (a.2 2) f
  · rw [if_pos e_10] at hw_10
    obtain rfl : r_10 = nI 1 := hw_10
    refine k_if_eq (tgt := 31) hx hb (by decide) dX0_isAnchorShowable_13 (by decide) (fun q => absurd q (by decide)) (fun _ => ?_)
    refine lv_aload_n hx hb dX0_isAnchorShowable_16 rfl (lv_at hl 0 rfl) ?_
    refine lv_iload_n hx hb dX0_isAnchorShowable_17 rfl (lv_at hl 1 rfl) ?_
    refine k_callSi (n := 1) (As := [.int (nI f)]) (rest := [.ref (q 3)]) hfix hN hK hP hD hS hA hl.1 (c_X0_needBefore l D cI cZ f (by omega)) (fun _ => rfl) gX0_isAnchorShowable_X0_needBefore rfl (by decide +kernel) rfl ⟨Nat.le_of_ble_eq_true rfl, Nat.le_of_ble_eq_true rfl⟩ [0, 1, 2, 3, 4] rfl (by decide) rfl (Nat.le_of_ble_eq_true rfl) ⟨Nat.zero_le _, Nat.zero_le _⟩ dX0_isAnchorShowable_18 (fun r_18 u H locs hw_18 hP hD hS => ?_)
    by_cases e_18 : f % 6 = 0
    · rw [if_pos e_18] at hw_18
      obtain rfl : r_18 = (-1) := hw_18
      refine k_callVi (n := 1) (wr := []) (As := [.int (-1)]) (rest := []) hfix hN hK hP hD hS hA hl.1 (c_X0_isWholeIfAny0 l D cI cZ q a b9 t9 ) gX0_isAnchorShowable_X0_isWholeIfAny rfl (by decide +kernel) rfl ⟨Nat.le_of_ble_eq_true rfl, Nat.le_of_ble_eq_true rfl⟩ [0, 1, 2, 3, 4] [] rfl rfl (by decide) (by decide) (by decide) 0 rfl rfl rfl (Nat.le_of_ble_eq_true rfl) ⟨Nat.zero_le _, Nat.zero_le _⟩ dX0_isAnchorShowable_21 (fun r_21 u H locs hw_21 hP hD hS => ?_)
      have hP : va_P D vwCl [(q 3, .inr (0, [.ref (q 2), .ref (q 31), .int (nI (a.1 11)), .int b9, .int t9, .int (nI (a.1 15))])), (q 31, .inl (cI, 100, .inl (a.2 5))), (q 2, .inr (2, [.ref (q 20), .ref (q 21), .int (nI (a.1 8)), .int (nI (a.1 14) - 1), .int (nI (a.1 13))])), (q 20, .inl (cZ, 300, .inl (a.2 2))), (q 21, .inl (cI, 300, .inl (a.2 4)))] H := hP.sub [0, 1, 2, 3, 4] rfl
      have hD : va_D A [(q 3, .inr (0, [.ref (q 2), .ref (q 31), .int (nI (a.1 11)), .int b9, .int t9, .int (nI (a.1 15))])), (q 31, .inl (cI, 100, .inl (a.2 5))), (q 2, .inr (2, [.ref (q 20), .ref (q 21), .int (nI (a.1 8)), .int (nI (a.1 14) - 1), .int (nI (a.1 13))])), (q 20, .inl (cZ, 300, .inl (a.2 2))), (q 21, .inl (cI, 300, .inl (a.2 4)))] := hD.sub [0, 1, 2, 3, 4] (by decide) rfl
      obtain rfl : r_21 = nI 1 := hw_21
      refine k_if_eq (tgt := 31) hx hb (by decide) dX0_isAnchorShowable_24 (by decide) (fun q => absurd q (by decide)) (fun _ => ?_)
      refine lv_iconst (v := nI 1) hx hb dX0_isAnchorShowable_27 (by decide) ?_
      refine lv_goto (tgt := 32) hx hb dX0_isAnchorShowable_28 (by decide) ?_
      exact k_iret (v := nI 1) hx hb hr hlk (by decide) () ((if_pos ⟨e_10, Or.inl e_18⟩).symm) hP hD hS dX0_isAnchorShowable_32
    · rw [if_neg e_18] at hw_18
      obtain rfl : r_18 = nI (bef f) := hw_18
      refine k_callVi (n := 1) (wr := []) (As := [.int (nI (bef f))]) (rest := []) hfix hN hK hP hD hS hA hl.1 (c_X0_isWholeIfAny l D cI cZ q a b9 t9 (bef f) (by first | omega | exact bef_lt (by omega) | exact beh_lt (by omega) (by omega))) gX0_isAnchorShowable_X0_isWholeIfAny rfl (by decide +kernel) rfl ⟨Nat.le_of_ble_eq_true rfl, Nat.le_of_ble_eq_true rfl⟩ [0, 1, 2, 3, 4] [] rfl rfl (by decide) (by decide) (by decide) 0 rfl rfl rfl (Nat.le_of_ble_eq_true rfl) ⟨Nat.zero_le _, Nat.zero_le _⟩ dX0_isAnchorShowable_21 (fun r_21 u H locs hw_21 hP hD hS => ?_)
      have hP : va_P D vwCl [(q 3, .inr (0, [.ref (q 2), .ref (q 31), .int (nI (a.1 11)), .int b9, .int t9, .int (nI (a.1 15))])), (q 31, .inl (cI, 100, .inl (a.2 5))), (q 2, .inr (2, [.ref (q 20), .ref (q 21), .int (nI (a.1 8)), .int (nI (a.1 14) - 1), .int (nI (a.1 13))])), (q 20, .inl (cZ, 300, .inl (a.2 2))), (q 21, .inl (cI, 300, .inl (a.2 4)))] H := hP.sub [0, 1, 2, 3, 4] rfl
      have hD : va_D A [(q 3, .inr (0, [.ref (q 2), .ref (q 31), .int (nI (a.1 11)), .int b9, .int t9, .int (nI (a.1 15))])), (q 31, .inl (cI, 100, .inl (a.2 5))), (q 2, .inr (2, [.ref (q 20), .ref (q 21), .int (nI (a.1 8)), .int (nI (a.1 14) - 1), .int (nI (a.1 13))])), (q 20, .inl (cZ, 300, .inl (a.2 2))), (q 21, .inl (cI, 300, .inl (a.2 4)))] := hD.sub [0, 1, 2, 3, 4] (by decide) rfl
      by_cases e_21 : whl (a.2 2) (bef f)
      · rw [if_pos e_21] at hw_21
        obtain rfl : r_21 = nI 1 := hw_21
        refine k_if_eq (tgt := 31) hx hb (by decide) dX0_isAnchorShowable_24 (by decide) (fun q => absurd q (by decide)) (fun _ => ?_)
        refine lv_iconst (v := nI 1) hx hb dX0_isAnchorShowable_27 (by decide) ?_
        refine lv_goto (tgt := 32) hx hb dX0_isAnchorShowable_28 (by decide) ?_
        exact k_iret (v := nI 1) hx hb hr hlk (by decide) () ((if_pos ⟨e_10, Or.inr e_21⟩).symm) hP hD hS dX0_isAnchorShowable_32
      · rw [if_neg e_21] at hw_21
        obtain rfl : r_21 = nI 0 := hw_21
        refine k_if_eq (tgt := 31) hx hb (by decide) dX0_isAnchorShowable_24 (by decide) (fun _ => ?_) (fun q => absurd q (by decide))
        refine lv_iconst (v := nI 0) hx hb dX0_isAnchorShowable_31 (by decide) ?_
        exact k_iret (v := nI 0) hx hb hr hlk (by decide) () ((if_neg (fun h => h.2.elim e_18 e_21)).symm) hP hD hS dX0_isAnchorShowable_32
  · rw [if_neg e_10] at hw_10
    obtain rfl : r_10 = nI 0 := hw_10
    refine k_if_eq (tgt := 31) hx hb (by decide) dX0_isAnchorShowable_13 (by decide) (fun _ => ?_) (fun q => absurd q (by decide))
    refine lv_iconst (v := nI 0) hx hb dX0_isAnchorShowable_31 (by decide) ?_
    exact k_iret (v := nI 0) hx hb hr hlk (by decide) () ((if_neg (fun h => e_10 h.1)).symm) hP hD hS dX0_isAnchorShowable_32
set_option maxHeartbeats 4000000 in
set_option maxRecDepth 100000 in
theorem c_X0_outcomeOf (l : Launch) (D : va_G) (cI cZ : ClassId) (q : Nat → Nat) (a : AS) (b9 t9 : Int32) (f : Nat) (hf : f < 100) : kMi l yX0_outcomeOf wsX0_outcomeOf 2 43 D (TY cI cZ) [.ref (q 3), .int (nI f)] [(q 3, .inr (0, [.ref (q 2), .ref (q 31), .int (nI (a.1 11)), .int b9, .int t9, .int (nI (a.1 15))])), (q 31, .inl (cI, 100, .inl (a.2 5))), (q 2, .inr (2, [.ref (q 20), .ref (q 21), .int (nI (a.1 8)), .int (nI (a.1 14) - 1), .int (nI (a.1 13))])), (q 20, .inl (cZ, 300, .inl (a.2 2))), (q 21, .inl (cI, 300, .inl (a.2 4)))] (fun (r : Int32) (_ : Unit) => r = nI (outc (a.2 2) (a.2 5) f)) (fun (_ : Unit) => FWb cI q a b9 t9 ++ SWa cI cZ q a) := by
  intro sz
  refine k_in (Qc := fun A => va_Qi (fun (r : Int32) (_ : Unit) => r = nI (outc (a.2 2) (a.2 5) f)) (kB D A (fun (_ : Unit) => FWb cI q a b9 t9 ++ SWa cI cZ q a)) A) (cc := cX0_outcomeOf) (maxL := 5) (ret := (some .int)) (by decide) rfl (Nat.le_of_ble_eq_true rfl) ?_
  intro p e s m below meth c A ls hfix hr hlk hN hP hK hD hA hS hl
  have hfix : CallFix p m c cX0_outcomeOf 5 s [.ref (q 3), .int (nI f)].toArray wsX0_outcomeOf RX0 := hfix
  have hl : lv_has ls 5 [(0, .ref (q 3)), (1, .int (nI f))] := hl
  obtain ⟨hx, hb, hml, hown, hts⟩ := id hfix
  have hinX0 : ∀ w ∈ wsX00, w ∈ wsX0_outcomeOf := fun _ h => List.mem_cons_of_mem _ (List.mem_append_left _ (List.mem_append_right _ h))
  have hP : va_P D vwCl [(q 3, .inr (0, [.ref (q 2), .ref (q 31), .int (nI (a.1 11)), .int b9, .int t9, .int (nI (a.1 15))])), (q 31, .inl (cI, 100, .inl (a.2 5))), (q 2, .inr (2, [.ref (q 20), .ref (q 21), .int (nI (a.1 8)), .int (nI (a.1 14) - 1), .int (nI (a.1 13))])), (q 20, .inl (cZ, 300, .inl (a.2 2))), (q 21, .inl (cI, 300, .inl (a.2 4)))] s.heap := hP
  have hD : va_D A [(q 3, .inr (0, [.ref (q 2), .ref (q 31), .int (nI (a.1 11)), .int b9, .int t9, .int (nI (a.1 15))])), (q 31, .inl (cI, 100, .inl (a.2 5))), (q 2, .inr (2, [.ref (q 20), .ref (q 21), .int (nI (a.1 8)), .int (nI (a.1 14) - 1), .int (nI (a.1 13))])), (q 20, .inl (cZ, 300, .inl (a.2 2))), (q 21, .inl (cI, 300, .inl (a.2 4)))] := hD
  have hS : ∃ (H : Heap) (locs : List Loc), H = s.heap ∧ locs = [] ∧ va_S A s.heap H locs := ⟨_, _, rfl, rfl, hS⟩
  obtain ⟨H, locs, hH, hlocs, hS⟩ := hS
  rw [← hH] at hP
  suffices hW9 : W p l e ({ frames := 2, cells := 0, slots := 0, locals := 43 } : Room) s m [.ref (q 3), .int (nI f)].toArray below meth c H locs 0 0 (MQ below (va_Qi (fun (r : Int32) (_ : Unit) => r = nI (outc (a.2 2) (a.2 5) f)) (kB D A (fun (_ : Unit) => FWb cI q a b9 t9 ++ SWa cI cZ q a)) A) [.ref (q 3), .int (nI f)].toArray s 0 0 A) (F0 m 0 ls []) by rw [hH, hlocs] at hW9; exact hW9
  clear hH hlocs
  refine lv_aload_n hx hb dX0_outcomeOf_0 rfl (lv_at hl 0 rfl) ?_
  refine va_get (D := D) (ci := 0) (v := .ref (q 2)) (C := RX0) (T := TX0) (N := 6) hx hb hts hinX0 hown hK hP 0 rfl rfl 0 (by decide) (hts _ (List.mem_of_getElem? (i := 1) rfl)) (fun _ h9 => h9) rfl dX0_outcomeOf_1 ?_
  refine lv_iload_n hx hb dX0_outcomeOf_4 rfl (lv_at hl 1 rfl) ?_
  refine k_callVi (n := 1) (wr := [(q 3, .inr (0, [.ref (q 2), .ref (q 31), .int (nI (a.1 11)), .int b9, .int t9, .int (nI (a.1 15))])), (q 31, .inl (cI, 100, .inl (a.2 5)))]) (As := [.int (nI f)]) (rest := []) hfix hN hK hP hD hS hA hl.1 (c_X2_holdsFrame l D cI cZ q a f (by omega)) gX0_outcomeOf_X2_holdsFrame rfl (by decide +kernel) rfl ⟨Nat.le_of_ble_eq_true rfl, Nat.le_of_ble_eq_true rfl⟩ [2, 3, 4] [0, 1] rfl rfl (by decide) (by decide) (by decide) 2 rfl rfl rfl (Nat.le_of_ble_eq_true rfl) ⟨Nat.zero_le _, Nat.zero_le _⟩ dX0_outcomeOf_5 (fun r_5 u H locs hw_5 hP hD hS => ?_)
  have hP : va_P D vwCl [(q 3, .inr (0, [.ref (q 2), .ref (q 31), .int (nI (a.1 11)), .int b9, .int t9, .int (nI (a.1 15))])), (q 31, .inl (cI, 100, .inl (a.2 5))), (q 2, .inr (2, [.ref (q 20), .ref (q 21), .int (nI (a.1 8)), .int (nI (a.1 14) - 1), .int (nI (a.1 13))])), (q 20, .inl (cZ, 300, .inl (a.2 2))), (q 21, .inl (cI, 300, .inl (a.2 4)))] H := hP.sub [0, 1, 2, 3, 4] rfl
  have hD : va_D A [(q 3, .inr (0, [.ref (q 2), .ref (q 31), .int (nI (a.1 11)), .int b9, .int t9, .int (nI (a.1 15))])), (q 31, .inl (cI, 100, .inl (a.2 5))), (q 2, .inr (2, [.ref (q 20), .ref (q 21), .int (nI (a.1 8)), .int (nI (a.1 14) - 1), .int (nI (a.1 13))])), (q 20, .inl (cZ, 300, .inl (a.2 2))), (q 21, .inl (cI, 300, .inl (a.2 4)))] := hD.sub [0, 1, 2, 3, 4] (by decide) rfl
  by_cases e_5 : whl (a.2 2) f
  · rw [if_pos e_5] at hw_5
    obtain rfl : r_5 = nI 1 := hw_5
    refine k_if_ne (tgt := 13) hx hb (by decide) dX0_outcomeOf_8 (by decide) (fun _ => ?_) (fun q => absurd q (by decide))
    refine lv_iload_n hx hb dX0_outcomeOf_13 rfl (lv_at hl 1 rfl) ?_
    refine k_callSi (n := 1) (As := [.int (nI f)]) (rest := []) hfix hN hK hP hD hS hA hl.1 (c_X0_needBefore l D cI cZ f (by omega)) (fun _ => rfl) gX0_outcomeOf_X0_needBefore rfl (by decide +kernel) rfl ⟨Nat.le_of_ble_eq_true rfl, Nat.le_of_ble_eq_true rfl⟩ [0, 1, 2, 3, 4] rfl (by decide) rfl (Nat.le_of_ble_eq_true rfl) ⟨Nat.zero_le _, Nat.zero_le _⟩ dX0_outcomeOf_14 (fun r_14 u H locs hw_14 hP hD hS => ?_)
    by_cases e_14 : f % 6 = 0
    · rw [if_pos e_14] at hw_14
      obtain rfl : r_14 = (-1) := hw_14
      refine lv_istore_n (lv' := [(2, .int (-1)), (0, .ref (q 3)), (1, .int (nI f))]) hx hb dX0_outcomeOf_17 rfl hl (by decide) rfl (fun ls hl => ?_)
      refine lv_iload_n hx hb dX0_outcomeOf_18 rfl (lv_at hl 2 rfl) ?_
      refine k_callSi (n := 1) (As := [.int (nI f)]) (rest := []) hfix hN hK hP hD hS hA hl.1 (c_X0_needBehind l D cI cZ f (by omega)) (fun _ => rfl) gX0_outcomeOf_X0_needBehind rfl (by decide +kernel) rfl ⟨Nat.le_of_ble_eq_true rfl, Nat.le_of_ble_eq_true rfl⟩ [0, 1, 2, 3, 4] rfl (by decide) rfl (Nat.le_of_ble_eq_true rfl) ⟨Nat.zero_le _, Nat.zero_le _⟩ dX0_outcomeOf_19 (fun r_19 u H locs hw_19 hP hD hS => ?_)
      by_cases e_19 : f % 3 = 0
      · rw [if_pos e_19] at hw_19
        obtain rfl : r_19 = (-1) := hw_19
        refine lv_istore_n (lv' := [(3, .int (-1)), (2, .int (-1)), (0, .ref (q 3)), (1, .int (nI f))]) hx hb dX0_outcomeOf_22 rfl hl (by decide) rfl (fun ls hl => ?_)
        refine lv_iload_n hx hb dX0_outcomeOf_23 rfl (lv_at hl 1 rfl) ?_
        refine lv_iconst (v := (-1)) hx hb dX0_outcomeOf_24 (by decide) ?_
        refine lv_icmp_eq (tgt := 36) hx hb dX0_outcomeOf_25 (by decide) (fun c_25 => ?_) (fun c_25 => absurd c_25 (fun h => h rfl))
        refine lv_aload_n hx hb dX0_outcomeOf_36 rfl (lv_at hl 2 rfl) ?_
        refine lv_iload_n hx hb dX0_outcomeOf_37 rfl (lv_at hl 0 rfl) ?_
        refine k_callVi (n := 1) (wr := []) (As := [.int (-1)]) (rest := []) hfix hN hK hP hD hS hA hl.1 (c_X0_isWholeIfAny0 l D cI cZ q a b9 t9 ) gX0_outcomeOf_X0_isWholeIfAny rfl (by decide +kernel) rfl ⟨Nat.le_of_ble_eq_true rfl, Nat.le_of_ble_eq_true rfl⟩ [0, 1, 2, 3, 4] [] rfl rfl (by decide) (by decide) (by decide) 0 rfl rfl rfl (Nat.le_of_ble_eq_true rfl) ⟨Nat.zero_le _, Nat.zero_le _⟩ dX0_outcomeOf_38 (fun r_38 u H locs hw_38 hP hD hS => ?_)
        have hP : va_P D vwCl [(q 3, .inr (0, [.ref (q 2), .ref (q 31), .int (nI (a.1 11)), .int b9, .int t9, .int (nI (a.1 15))])), (q 31, .inl (cI, 100, .inl (a.2 5))), (q 2, .inr (2, [.ref (q 20), .ref (q 21), .int (nI (a.1 8)), .int (nI (a.1 14) - 1), .int (nI (a.1 13))])), (q 20, .inl (cZ, 300, .inl (a.2 2))), (q 21, .inl (cI, 300, .inl (a.2 4)))] H := hP.sub [0, 1, 2, 3, 4] rfl
        have hD : va_D A [(q 3, .inr (0, [.ref (q 2), .ref (q 31), .int (nI (a.1 11)), .int b9, .int t9, .int (nI (a.1 15))])), (q 31, .inl (cI, 100, .inl (a.2 5))), (q 2, .inr (2, [.ref (q 20), .ref (q 21), .int (nI (a.1 8)), .int (nI (a.1 14) - 1), .int (nI (a.1 13))])), (q 20, .inl (cZ, 300, .inl (a.2 2))), (q 21, .inl (cI, 300, .inl (a.2 4)))] := hD.sub [0, 1, 2, 3, 4] (by decide) rfl
        obtain rfl : r_38 = nI 1 := hw_38
        refine k_if_eq (tgt := 48) hx hb (by decide) dX0_outcomeOf_41 (by decide) (fun q => absurd q (by decide)) (fun _ => ?_)
        refine lv_iconst (v := nI 1) hx hb dX0_outcomeOf_44 (by decide) ?_
        refine lv_goto (tgt := 49) hx hb dX0_outcomeOf_45 (by decide) ?_
        refine lv_istore (lv' := [(4, .int (nI 1)), (3, .int (-1)), (2, .int (-1)), (0, .ref (q 3)), (1, .int (nI f))]) hx hb dX0_outcomeOf_49 hl (by decide) rfl (fun ls hl => ?_)
        refine lv_iload hx hb dX0_outcomeOf_51 (lv_at hl 0 rfl) ?_
        refine k_if_eq (tgt := 60) hx hb (by decide) dX0_outcomeOf_53 (by decide) (fun q => absurd q (by decide)) (fun _ => ?_)
        refine lv_iconst (v := nI 1) hx hb dX0_outcomeOf_56 (by decide) ?_
        refine lv_goto (tgt := 61) hx hb dX0_outcomeOf_57 (by decide) ?_
        exact k_iret (v := nI 1) hx hb hr hlk rfl () (by rw [outc, if_pos e_5, if_pos ⟨Or.inl e_14, Or.inl e_19⟩]) hP hD hS dX0_outcomeOf_61
      · rw [if_neg e_19] at hw_19
        obtain rfl : r_19 = nI (beh f) := hw_19
        refine lv_istore_n (lv' := [(3, .int (nI (beh f))), (2, .int (-1)), (0, .ref (q 3)), (1, .int (nI f))]) hx hb dX0_outcomeOf_22 rfl hl (by decide) rfl (fun ls hl => ?_)
        refine lv_iload_n hx hb dX0_outcomeOf_23 rfl (lv_at hl 1 rfl) ?_
        refine lv_iconst (v := (-1)) hx hb dX0_outcomeOf_24 (by decide) ?_
        refine lv_icmp_eq (tgt := 36) hx hb dX0_outcomeOf_25 (by decide) (fun c_25 => ?_) (fun c_25 => absurd c_25 (fun h => h rfl))
        refine lv_aload_n hx hb dX0_outcomeOf_36 rfl (lv_at hl 2 rfl) ?_
        refine lv_iload_n hx hb dX0_outcomeOf_37 rfl (lv_at hl 0 rfl) ?_
        refine k_callVi (n := 1) (wr := []) (As := [.int (nI (beh f))]) (rest := []) hfix hN hK hP hD hS hA hl.1 (c_X0_isWholeIfAny l D cI cZ q a b9 t9 (beh f) (by first | omega | exact bef_lt (by omega) | exact beh_lt (by omega) (by omega))) gX0_outcomeOf_X0_isWholeIfAny rfl (by decide +kernel) rfl ⟨Nat.le_of_ble_eq_true rfl, Nat.le_of_ble_eq_true rfl⟩ [0, 1, 2, 3, 4] [] rfl rfl (by decide) (by decide) (by decide) 0 rfl rfl rfl (Nat.le_of_ble_eq_true rfl) ⟨Nat.zero_le _, Nat.zero_le _⟩ dX0_outcomeOf_38 (fun r_38 u H locs hw_38 hP hD hS => ?_)
        have hP : va_P D vwCl [(q 3, .inr (0, [.ref (q 2), .ref (q 31), .int (nI (a.1 11)), .int b9, .int t9, .int (nI (a.1 15))])), (q 31, .inl (cI, 100, .inl (a.2 5))), (q 2, .inr (2, [.ref (q 20), .ref (q 21), .int (nI (a.1 8)), .int (nI (a.1 14) - 1), .int (nI (a.1 13))])), (q 20, .inl (cZ, 300, .inl (a.2 2))), (q 21, .inl (cI, 300, .inl (a.2 4)))] H := hP.sub [0, 1, 2, 3, 4] rfl
        have hD : va_D A [(q 3, .inr (0, [.ref (q 2), .ref (q 31), .int (nI (a.1 11)), .int b9, .int t9, .int (nI (a.1 15))])), (q 31, .inl (cI, 100, .inl (a.2 5))), (q 2, .inr (2, [.ref (q 20), .ref (q 21), .int (nI (a.1 8)), .int (nI (a.1 14) - 1), .int (nI (a.1 13))])), (q 20, .inl (cZ, 300, .inl (a.2 2))), (q 21, .inl (cI, 300, .inl (a.2 4)))] := hD.sub [0, 1, 2, 3, 4] (by decide) rfl
        by_cases e_38 : whl (a.2 2) (beh f)
        · rw [if_pos e_38] at hw_38
          obtain rfl : r_38 = nI 1 := hw_38
          refine k_if_eq (tgt := 48) hx hb (by decide) dX0_outcomeOf_41 (by decide) (fun q => absurd q (by decide)) (fun _ => ?_)
          refine lv_iconst (v := nI 1) hx hb dX0_outcomeOf_44 (by decide) ?_
          refine lv_goto (tgt := 49) hx hb dX0_outcomeOf_45 (by decide) ?_
          refine lv_istore (lv' := [(4, .int (nI 1)), (3, .int (nI (beh f))), (2, .int (-1)), (0, .ref (q 3)), (1, .int (nI f))]) hx hb dX0_outcomeOf_49 hl (by decide) rfl (fun ls hl => ?_)
          refine lv_iload hx hb dX0_outcomeOf_51 (lv_at hl 0 rfl) ?_
          refine k_if_eq (tgt := 60) hx hb (by decide) dX0_outcomeOf_53 (by decide) (fun q => absurd q (by decide)) (fun _ => ?_)
          refine lv_iconst (v := nI 1) hx hb dX0_outcomeOf_56 (by decide) ?_
          refine lv_goto (tgt := 61) hx hb dX0_outcomeOf_57 (by decide) ?_
          exact k_iret (v := nI 1) hx hb hr hlk rfl () (by rw [outc, if_pos e_5, if_pos ⟨Or.inl e_14, Or.inr e_38⟩]) hP hD hS dX0_outcomeOf_61
        · rw [if_neg e_38] at hw_38
          obtain rfl : r_38 = nI 0 := hw_38
          refine k_if_eq (tgt := 48) hx hb (by decide) dX0_outcomeOf_41 (by decide) (fun _ => ?_) (fun q => absurd q (by decide))
          refine lv_iconst (v := nI 0) hx hb dX0_outcomeOf_48 (by decide) ?_
          refine lv_istore (lv' := [(4, .int (nI 0)), (3, .int (nI (beh f))), (2, .int (-1)), (0, .ref (q 3)), (1, .int (nI f))]) hx hb dX0_outcomeOf_49 hl (by decide) rfl (fun ls hl => ?_)
          refine lv_iload hx hb dX0_outcomeOf_51 (lv_at hl 0 rfl) ?_
          refine k_if_eq (tgt := 60) hx hb (by decide) dX0_outcomeOf_53 (by decide) (fun _ => ?_) (fun q => absurd q (by decide))
          refine lv_iconst (v := nI 3) hx hb dX0_outcomeOf_60 (by decide) ?_
          exact k_iret (v := nI 3) hx hb hr hlk rfl () (by rw [outc, if_pos e_5, if_neg (fun h => h.2.elim e_19 e_38)]) hP hD hS dX0_outcomeOf_61
    · rw [if_neg e_14] at hw_14
      obtain rfl : r_14 = nI (bef f) := hw_14
      refine lv_istore_n (lv' := [(2, .int (nI (bef f))), (0, .ref (q 3)), (1, .int (nI f))]) hx hb dX0_outcomeOf_17 rfl hl (by decide) rfl (fun ls hl => ?_)
      refine lv_iload_n hx hb dX0_outcomeOf_18 rfl (lv_at hl 2 rfl) ?_
      refine k_callSi (n := 1) (As := [.int (nI f)]) (rest := []) hfix hN hK hP hD hS hA hl.1 (c_X0_needBehind l D cI cZ f (by omega)) (fun _ => rfl) gX0_outcomeOf_X0_needBehind rfl (by decide +kernel) rfl ⟨Nat.le_of_ble_eq_true rfl, Nat.le_of_ble_eq_true rfl⟩ [0, 1, 2, 3, 4] rfl (by decide) rfl (Nat.le_of_ble_eq_true rfl) ⟨Nat.zero_le _, Nat.zero_le _⟩ dX0_outcomeOf_19 (fun r_19 u H locs hw_19 hP hD hS => ?_)
      by_cases e_19 : f % 3 = 0
      · rw [if_pos e_19] at hw_19
        obtain rfl : r_19 = (-1) := hw_19
        refine lv_istore_n (lv' := [(3, .int (-1)), (2, .int (nI (bef f))), (0, .ref (q 3)), (1, .int (nI f))]) hx hb dX0_outcomeOf_22 rfl hl (by decide) rfl (fun ls hl => ?_)
        refine lv_iload_n hx hb dX0_outcomeOf_23 rfl (lv_at hl 1 rfl) ?_
        refine lv_iconst (v := (-1)) hx hb dX0_outcomeOf_24 (by decide) ?_
        refine lv_icmp_eq (tgt := 36) hx hb dX0_outcomeOf_25 (by decide) (fun c_25 => absurd c_25 (nI_m1 (by have := bef_lt hf; omega))) (fun c_25 => ?_)
        refine lv_aload_n hx hb dX0_outcomeOf_28 rfl (lv_at hl 2 rfl) ?_
        refine lv_iload_n hx hb dX0_outcomeOf_29 rfl (lv_at hl 1 rfl) ?_
        refine k_callVi (n := 1) (wr := [(q 2, .inr (2, [.ref (q 20), .ref (q 21), .int (nI (a.1 8)), .int (nI (a.1 14) - 1), .int (nI (a.1 13))])), (q 20, .inl (cZ, 300, .inl (a.2 2))), (q 21, .inl (cI, 300, .inl (a.2 4)))]) (As := [.int (nI (bef f))]) (rest := []) hfix hN hK hP hD hS hA hl.1 (c_X0_wasShown l D cI cZ q a b9 t9 (bef f) (by first | omega | exact bef_lt (by omega) | exact beh_lt (by omega) (by omega))) gX0_outcomeOf_X0_wasShown rfl (by decide +kernel) rfl ⟨Nat.le_of_ble_eq_true rfl, Nat.le_of_ble_eq_true rfl⟩ [0, 1] [2, 3, 4] rfl rfl (by decide) (by decide) (by decide) 0 rfl rfl rfl (Nat.le_of_ble_eq_true rfl) ⟨Nat.zero_le _, Nat.zero_le _⟩ dX0_outcomeOf_30 (fun r_30 u H locs hw_30 hP hD hS => ?_)
        have hP : va_P D vwCl [(q 3, .inr (0, [.ref (q 2), .ref (q 31), .int (nI (a.1 11)), .int b9, .int t9, .int (nI (a.1 15))])), (q 31, .inl (cI, 100, .inl (a.2 5))), (q 2, .inr (2, [.ref (q 20), .ref (q 21), .int (nI (a.1 8)), .int (nI (a.1 14) - 1), .int (nI (a.1 13))])), (q 20, .inl (cZ, 300, .inl (a.2 2))), (q 21, .inl (cI, 300, .inl (a.2 4)))] H := hP.sub [3, 4, 0, 1, 2] rfl
        have hD : va_D A [(q 3, .inr (0, [.ref (q 2), .ref (q 31), .int (nI (a.1 11)), .int b9, .int t9, .int (nI (a.1 15))])), (q 31, .inl (cI, 100, .inl (a.2 5))), (q 2, .inr (2, [.ref (q 20), .ref (q 21), .int (nI (a.1 8)), .int (nI (a.1 14) - 1), .int (nI (a.1 13))])), (q 20, .inl (cZ, 300, .inl (a.2 2))), (q 21, .inl (cI, 300, .inl (a.2 4)))] := hD.sub [3, 4, 0, 1, 2] (by decide) rfl
        by_cases e_30 : a.2 5 (bef f) = nI 1
        · rw [if_pos e_30] at hw_30
          obtain rfl : r_30 = nI 1 := hw_30
          refine k_if_eq (tgt := 48) hx hb (by decide) dX0_outcomeOf_33 (by decide) (fun q => absurd q (by decide)) (fun _ => ?_)
          refine lv_aload_n hx hb dX0_outcomeOf_36 rfl (lv_at hl 2 rfl) ?_
          refine lv_iload_n hx hb dX0_outcomeOf_37 rfl (lv_at hl 0 rfl) ?_
          refine k_callVi (n := 1) (wr := []) (As := [.int (-1)]) (rest := []) hfix hN hK hP hD hS hA hl.1 (c_X0_isWholeIfAny0 l D cI cZ q a b9 t9 ) gX0_outcomeOf_X0_isWholeIfAny rfl (by decide +kernel) rfl ⟨Nat.le_of_ble_eq_true rfl, Nat.le_of_ble_eq_true rfl⟩ [0, 1, 2, 3, 4] [] rfl rfl (by decide) (by decide) (by decide) 0 rfl rfl rfl (Nat.le_of_ble_eq_true rfl) ⟨Nat.zero_le _, Nat.zero_le _⟩ dX0_outcomeOf_38 (fun r_38 u H locs hw_38 hP hD hS => ?_)
          have hP : va_P D vwCl [(q 3, .inr (0, [.ref (q 2), .ref (q 31), .int (nI (a.1 11)), .int b9, .int t9, .int (nI (a.1 15))])), (q 31, .inl (cI, 100, .inl (a.2 5))), (q 2, .inr (2, [.ref (q 20), .ref (q 21), .int (nI (a.1 8)), .int (nI (a.1 14) - 1), .int (nI (a.1 13))])), (q 20, .inl (cZ, 300, .inl (a.2 2))), (q 21, .inl (cI, 300, .inl (a.2 4)))] H := hP.sub [0, 1, 2, 3, 4] rfl
          have hD : va_D A [(q 3, .inr (0, [.ref (q 2), .ref (q 31), .int (nI (a.1 11)), .int b9, .int t9, .int (nI (a.1 15))])), (q 31, .inl (cI, 100, .inl (a.2 5))), (q 2, .inr (2, [.ref (q 20), .ref (q 21), .int (nI (a.1 8)), .int (nI (a.1 14) - 1), .int (nI (a.1 13))])), (q 20, .inl (cZ, 300, .inl (a.2 2))), (q 21, .inl (cI, 300, .inl (a.2 4)))] := hD.sub [0, 1, 2, 3, 4] (by decide) rfl
          obtain rfl : r_38 = nI 1 := hw_38
          refine k_if_eq (tgt := 48) hx hb (by decide) dX0_outcomeOf_41 (by decide) (fun q => absurd q (by decide)) (fun _ => ?_)
          refine lv_iconst (v := nI 1) hx hb dX0_outcomeOf_44 (by decide) ?_
          refine lv_goto (tgt := 49) hx hb dX0_outcomeOf_45 (by decide) ?_
          refine lv_istore (lv' := [(4, .int (nI 1)), (3, .int (-1)), (2, .int (nI (bef f))), (0, .ref (q 3)), (1, .int (nI f))]) hx hb dX0_outcomeOf_49 hl (by decide) rfl (fun ls hl => ?_)
          refine lv_iload hx hb dX0_outcomeOf_51 (lv_at hl 0 rfl) ?_
          refine k_if_eq (tgt := 60) hx hb (by decide) dX0_outcomeOf_53 (by decide) (fun q => absurd q (by decide)) (fun _ => ?_)
          refine lv_iconst (v := nI 1) hx hb dX0_outcomeOf_56 (by decide) ?_
          refine lv_goto (tgt := 61) hx hb dX0_outcomeOf_57 (by decide) ?_
          exact k_iret (v := nI 1) hx hb hr hlk rfl () (by rw [outc, if_pos e_5, if_pos ⟨Or.inr e_30, Or.inl e_19⟩]) hP hD hS dX0_outcomeOf_61
        · rw [if_neg e_30] at hw_30
          obtain rfl : r_30 = nI 0 := hw_30
          refine k_if_eq (tgt := 48) hx hb (by decide) dX0_outcomeOf_33 (by decide) (fun _ => ?_) (fun q => absurd q (by decide))
          refine lv_iconst (v := nI 0) hx hb dX0_outcomeOf_48 (by decide) ?_
          refine lv_istore (lv' := [(4, .int (nI 0)), (3, .int (-1)), (2, .int (nI (bef f))), (0, .ref (q 3)), (1, .int (nI f))]) hx hb dX0_outcomeOf_49 hl (by decide) rfl (fun ls hl => ?_)
          refine lv_iload hx hb dX0_outcomeOf_51 (lv_at hl 0 rfl) ?_
          refine k_if_eq (tgt := 60) hx hb (by decide) dX0_outcomeOf_53 (by decide) (fun _ => ?_) (fun q => absurd q (by decide))
          refine lv_iconst (v := nI 3) hx hb dX0_outcomeOf_60 (by decide) ?_
          exact k_iret (v := nI 3) hx hb hr hlk rfl () (by rw [outc, if_pos e_5, if_neg (fun h => h.1.elim e_14 e_30)]) hP hD hS dX0_outcomeOf_61
      · rw [if_neg e_19] at hw_19
        obtain rfl : r_19 = nI (beh f) := hw_19
        refine lv_istore_n (lv' := [(3, .int (nI (beh f))), (2, .int (nI (bef f))), (0, .ref (q 3)), (1, .int (nI f))]) hx hb dX0_outcomeOf_22 rfl hl (by decide) rfl (fun ls hl => ?_)
        refine lv_iload_n hx hb dX0_outcomeOf_23 rfl (lv_at hl 1 rfl) ?_
        refine lv_iconst (v := (-1)) hx hb dX0_outcomeOf_24 (by decide) ?_
        refine lv_icmp_eq (tgt := 36) hx hb dX0_outcomeOf_25 (by decide) (fun c_25 => absurd c_25 (nI_m1 (by have := bef_lt hf; omega))) (fun c_25 => ?_)
        refine lv_aload_n hx hb dX0_outcomeOf_28 rfl (lv_at hl 2 rfl) ?_
        refine lv_iload_n hx hb dX0_outcomeOf_29 rfl (lv_at hl 1 rfl) ?_
        refine k_callVi (n := 1) (wr := [(q 2, .inr (2, [.ref (q 20), .ref (q 21), .int (nI (a.1 8)), .int (nI (a.1 14) - 1), .int (nI (a.1 13))])), (q 20, .inl (cZ, 300, .inl (a.2 2))), (q 21, .inl (cI, 300, .inl (a.2 4)))]) (As := [.int (nI (bef f))]) (rest := []) hfix hN hK hP hD hS hA hl.1 (c_X0_wasShown l D cI cZ q a b9 t9 (bef f) (by first | omega | exact bef_lt (by omega) | exact beh_lt (by omega) (by omega))) gX0_outcomeOf_X0_wasShown rfl (by decide +kernel) rfl ⟨Nat.le_of_ble_eq_true rfl, Nat.le_of_ble_eq_true rfl⟩ [0, 1] [2, 3, 4] rfl rfl (by decide) (by decide) (by decide) 0 rfl rfl rfl (Nat.le_of_ble_eq_true rfl) ⟨Nat.zero_le _, Nat.zero_le _⟩ dX0_outcomeOf_30 (fun r_30 u H locs hw_30 hP hD hS => ?_)
        have hP : va_P D vwCl [(q 3, .inr (0, [.ref (q 2), .ref (q 31), .int (nI (a.1 11)), .int b9, .int t9, .int (nI (a.1 15))])), (q 31, .inl (cI, 100, .inl (a.2 5))), (q 2, .inr (2, [.ref (q 20), .ref (q 21), .int (nI (a.1 8)), .int (nI (a.1 14) - 1), .int (nI (a.1 13))])), (q 20, .inl (cZ, 300, .inl (a.2 2))), (q 21, .inl (cI, 300, .inl (a.2 4)))] H := hP.sub [3, 4, 0, 1, 2] rfl
        have hD : va_D A [(q 3, .inr (0, [.ref (q 2), .ref (q 31), .int (nI (a.1 11)), .int b9, .int t9, .int (nI (a.1 15))])), (q 31, .inl (cI, 100, .inl (a.2 5))), (q 2, .inr (2, [.ref (q 20), .ref (q 21), .int (nI (a.1 8)), .int (nI (a.1 14) - 1), .int (nI (a.1 13))])), (q 20, .inl (cZ, 300, .inl (a.2 2))), (q 21, .inl (cI, 300, .inl (a.2 4)))] := hD.sub [3, 4, 0, 1, 2] (by decide) rfl
        by_cases e_30 : a.2 5 (bef f) = nI 1
        · rw [if_pos e_30] at hw_30
          obtain rfl : r_30 = nI 1 := hw_30
          refine k_if_eq (tgt := 48) hx hb (by decide) dX0_outcomeOf_33 (by decide) (fun q => absurd q (by decide)) (fun _ => ?_)
          refine lv_aload_n hx hb dX0_outcomeOf_36 rfl (lv_at hl 2 rfl) ?_
          refine lv_iload_n hx hb dX0_outcomeOf_37 rfl (lv_at hl 0 rfl) ?_
          refine k_callVi (n := 1) (wr := []) (As := [.int (nI (beh f))]) (rest := []) hfix hN hK hP hD hS hA hl.1 (c_X0_isWholeIfAny l D cI cZ q a b9 t9 (beh f) (by first | omega | exact bef_lt (by omega) | exact beh_lt (by omega) (by omega))) gX0_outcomeOf_X0_isWholeIfAny rfl (by decide +kernel) rfl ⟨Nat.le_of_ble_eq_true rfl, Nat.le_of_ble_eq_true rfl⟩ [0, 1, 2, 3, 4] [] rfl rfl (by decide) (by decide) (by decide) 0 rfl rfl rfl (Nat.le_of_ble_eq_true rfl) ⟨Nat.zero_le _, Nat.zero_le _⟩ dX0_outcomeOf_38 (fun r_38 u H locs hw_38 hP hD hS => ?_)
          have hP : va_P D vwCl [(q 3, .inr (0, [.ref (q 2), .ref (q 31), .int (nI (a.1 11)), .int b9, .int t9, .int (nI (a.1 15))])), (q 31, .inl (cI, 100, .inl (a.2 5))), (q 2, .inr (2, [.ref (q 20), .ref (q 21), .int (nI (a.1 8)), .int (nI (a.1 14) - 1), .int (nI (a.1 13))])), (q 20, .inl (cZ, 300, .inl (a.2 2))), (q 21, .inl (cI, 300, .inl (a.2 4)))] H := hP.sub [0, 1, 2, 3, 4] rfl
          have hD : va_D A [(q 3, .inr (0, [.ref (q 2), .ref (q 31), .int (nI (a.1 11)), .int b9, .int t9, .int (nI (a.1 15))])), (q 31, .inl (cI, 100, .inl (a.2 5))), (q 2, .inr (2, [.ref (q 20), .ref (q 21), .int (nI (a.1 8)), .int (nI (a.1 14) - 1), .int (nI (a.1 13))])), (q 20, .inl (cZ, 300, .inl (a.2 2))), (q 21, .inl (cI, 300, .inl (a.2 4)))] := hD.sub [0, 1, 2, 3, 4] (by decide) rfl
          by_cases e_38 : whl (a.2 2) (beh f)
          · rw [if_pos e_38] at hw_38
            obtain rfl : r_38 = nI 1 := hw_38
            refine k_if_eq (tgt := 48) hx hb (by decide) dX0_outcomeOf_41 (by decide) (fun q => absurd q (by decide)) (fun _ => ?_)
            refine lv_iconst (v := nI 1) hx hb dX0_outcomeOf_44 (by decide) ?_
            refine lv_goto (tgt := 49) hx hb dX0_outcomeOf_45 (by decide) ?_
            refine lv_istore (lv' := [(4, .int (nI 1)), (3, .int (nI (beh f))), (2, .int (nI (bef f))), (0, .ref (q 3)), (1, .int (nI f))]) hx hb dX0_outcomeOf_49 hl (by decide) rfl (fun ls hl => ?_)
            refine lv_iload hx hb dX0_outcomeOf_51 (lv_at hl 0 rfl) ?_
            refine k_if_eq (tgt := 60) hx hb (by decide) dX0_outcomeOf_53 (by decide) (fun q => absurd q (by decide)) (fun _ => ?_)
            refine lv_iconst (v := nI 1) hx hb dX0_outcomeOf_56 (by decide) ?_
            refine lv_goto (tgt := 61) hx hb dX0_outcomeOf_57 (by decide) ?_
            exact k_iret (v := nI 1) hx hb hr hlk rfl () (by rw [outc, if_pos e_5, if_pos ⟨Or.inr e_30, Or.inr e_38⟩]) hP hD hS dX0_outcomeOf_61
          · rw [if_neg e_38] at hw_38
            obtain rfl : r_38 = nI 0 := hw_38
            refine k_if_eq (tgt := 48) hx hb (by decide) dX0_outcomeOf_41 (by decide) (fun _ => ?_) (fun q => absurd q (by decide))
            refine lv_iconst (v := nI 0) hx hb dX0_outcomeOf_48 (by decide) ?_
            refine lv_istore (lv' := [(4, .int (nI 0)), (3, .int (nI (beh f))), (2, .int (nI (bef f))), (0, .ref (q 3)), (1, .int (nI f))]) hx hb dX0_outcomeOf_49 hl (by decide) rfl (fun ls hl => ?_)
            refine lv_iload hx hb dX0_outcomeOf_51 (lv_at hl 0 rfl) ?_
            refine k_if_eq (tgt := 60) hx hb (by decide) dX0_outcomeOf_53 (by decide) (fun _ => ?_) (fun q => absurd q (by decide))
            refine lv_iconst (v := nI 3) hx hb dX0_outcomeOf_60 (by decide) ?_
            exact k_iret (v := nI 3) hx hb hr hlk rfl () (by rw [outc, if_pos e_5, if_neg (fun h => h.2.elim e_19 e_38)]) hP hD hS dX0_outcomeOf_61
        · rw [if_neg e_30] at hw_30
          obtain rfl : r_30 = nI 0 := hw_30
          refine k_if_eq (tgt := 48) hx hb (by decide) dX0_outcomeOf_33 (by decide) (fun _ => ?_) (fun q => absurd q (by decide))
          refine lv_iconst (v := nI 0) hx hb dX0_outcomeOf_48 (by decide) ?_
          refine lv_istore (lv' := [(4, .int (nI 0)), (3, .int (nI (beh f))), (2, .int (nI (bef f))), (0, .ref (q 3)), (1, .int (nI f))]) hx hb dX0_outcomeOf_49 hl (by decide) rfl (fun ls hl => ?_)
          refine lv_iload hx hb dX0_outcomeOf_51 (lv_at hl 0 rfl) ?_
          refine k_if_eq (tgt := 60) hx hb (by decide) dX0_outcomeOf_53 (by decide) (fun _ => ?_) (fun q => absurd q (by decide))
          refine lv_iconst (v := nI 3) hx hb dX0_outcomeOf_60 (by decide) ?_
          exact k_iret (v := nI 3) hx hb hr hlk rfl () (by rw [outc, if_pos e_5, if_neg (fun h => h.1.elim e_14 e_30)]) hP hD hS dX0_outcomeOf_61
  · rw [if_neg e_5] at hw_5
    obtain rfl : r_5 = nI 0 := hw_5
    refine k_if_ne (tgt := 13) hx hb (by decide) dX0_outcomeOf_8 (by decide) (fun q => absurd q (by decide)) (fun _ => ?_)
    refine lv_iconst (v := nI 2) hx hb dX0_outcomeOf_11 (by decide) ?_
    exact k_iret (v := nI 2) hx hb hr hlk rfl () (by rw [outc, if_neg e_5]) hP hD hS dX0_outcomeOf_12
set_option maxHeartbeats 4000000 in
set_option maxRecDepth 100000 in
theorem c_X0_wholeAhead (l : Launch) (D : va_G) (cI cZ : ClassId) (q : Nat → Nat) (a : AS) (b9 t9 : Int32) (i11 : a.1 11 ≤ 100) : kMi l yX0_wholeAhead wsX0_wholeAhead 1 22 D (TY cI cZ) [.ref (q 3)] [(q 3, .inr (0, [.ref (q 2), .ref (q 31), .int (nI (a.1 11)), .int b9, .int t9, .int (nI (a.1 15))])), (q 31, .inl (cI, 100, .inl (a.2 5))), (q 2, .inr (2, [.ref (q 20), .ref (q 21), .int (nI (a.1 8)), .int (nI (a.1 14) - 1), .int (nI (a.1 13))])), (q 20, .inl (cZ, 300, .inl (a.2 2))), (q 21, .inl (cI, 300, .inl (a.2 4)))] (fun (r : Int32) (_ : Unit) => r = nI (a_fill a)) (fun (_ : Unit) => FWb cI q a b9 t9 ++ SWa cI cZ q a) := by
  intro sz
  refine k_in (Qc := fun A => va_Qi (fun (r : Int32) (_ : Unit) => r = nI (a_fill a)) (kB D A (fun (_ : Unit) => FWb cI q a b9 t9 ++ SWa cI cZ q a)) A) (cc := cX0_wholeAhead) (maxL := 3) (ret := (some .int)) (by decide) rfl (Nat.le_of_ble_eq_true rfl) ?_
  intro p e s m below meth c A ls hfix hr hlk hN hP hK hD hA hS hl
  have hfix : CallFix p m c cX0_wholeAhead 3 s [.ref (q 3)].toArray wsX0_wholeAhead RX0 := hfix
  have hl : lv_has ls 3 [(0, .ref (q 3))] := hl
  obtain ⟨hx, hb, hml, hown, hts⟩ := id hfix
  have hinX0 : ∀ w ∈ wsX00, w ∈ wsX0_wholeAhead := fun _ h => List.mem_cons_of_mem _ (List.mem_append_left _ (List.mem_append_right _ h))
  have hP : va_P D vwCl [(q 3, .inr (0, [.ref (q 2), .ref (q 31), .int (nI (a.1 11)), .int b9, .int t9, .int (nI (a.1 15))])), (q 31, .inl (cI, 100, .inl (a.2 5))), (q 2, .inr (2, [.ref (q 20), .ref (q 21), .int (nI (a.1 8)), .int (nI (a.1 14) - 1), .int (nI (a.1 13))])), (q 20, .inl (cZ, 300, .inl (a.2 2))), (q 21, .inl (cI, 300, .inl (a.2 4)))] s.heap := hP
  have hD : va_D A [(q 3, .inr (0, [.ref (q 2), .ref (q 31), .int (nI (a.1 11)), .int b9, .int t9, .int (nI (a.1 15))])), (q 31, .inl (cI, 100, .inl (a.2 5))), (q 2, .inr (2, [.ref (q 20), .ref (q 21), .int (nI (a.1 8)), .int (nI (a.1 14) - 1), .int (nI (a.1 13))])), (q 20, .inl (cZ, 300, .inl (a.2 2))), (q 21, .inl (cI, 300, .inl (a.2 4)))] := hD
  have hS : ∃ (H : Heap) (locs : List Loc), H = s.heap ∧ locs = [] ∧ va_S A s.heap H locs := ⟨_, _, rfl, rfl, hS⟩
  obtain ⟨H, locs, hH, hlocs, hS⟩ := hS
  rw [← hH] at hP
  suffices hW9 : W p l e ({ frames := 1, cells := 0, slots := 0, locals := 22 } : Room) s m [.ref (q 3)].toArray below meth c H locs 0 0 (MQ below (va_Qi (fun (r : Int32) (_ : Unit) => r = nI (a_fill a)) (kB D A (fun (_ : Unit) => FWb cI q a b9 t9 ++ SWa cI cZ q a)) A) [.ref (q 3)].toArray s 0 0 A) (F0 m 0 ls []) by rw [hH, hlocs] at hW9; exact hW9
  clear hH hlocs
  have at7 : ∀ (n9 : Nat) (k : Nat) (hf9 : (100 - (a.1 11 + k)) < n9) (h1 : a.1 11 + k ≤ 100) (hk : a_fill a = fillN (a.2 2) (100 - (a.1 11 + k)) (a.1 11 + k) + k) (H : Heap) (locs : List Loc) (ls : Array Slot) (hP : va_P D vwCl [(q 3, .inr (0, [.ref (q 2), .ref (q 31), .int (nI (a.1 11)), .int b9, .int t9, .int (nI (a.1 15))])), (q 31, .inl (cI, 100, .inl (a.2 5))), (q 2, .inr (2, [.ref (q 20), .ref (q 21), .int (nI (a.1 8)), .int (nI (a.1 14) - 1), .int (nI (a.1 13))])), (q 20, .inl (cZ, 300, .inl (a.2 2))), (q 21, .inl (cI, 300, .inl (a.2 4)))] H) (hD : va_D A [(q 3, .inr (0, [.ref (q 2), .ref (q 31), .int (nI (a.1 11)), .int b9, .int t9, .int (nI (a.1 15))])), (q 31, .inl (cI, 100, .inl (a.2 5))), (q 2, .inr (2, [.ref (q 20), .ref (q 21), .int (nI (a.1 8)), .int (nI (a.1 14) - 1), .int (nI (a.1 13))])), (q 20, .inl (cZ, 300, .inl (a.2 2))), (q 21, .inl (cI, 300, .inl (a.2 4)))]) (hS : va_S A s.heap H locs) (hl : lv_has ls 3 [(0, .ref (q 3)), (1, .int (nI k)), (2, .int (nI (a.1 11 + k)))]), W p l e ({ frames := 1, cells := 0, slots := 0, locals := 22 } : Room) s m [.ref (q 3)].toArray below meth c H locs 0 0 (MQ below (va_Qi (fun (r : Int32) (_ : Unit) => r = nI (a_fill a)) (kB D A (fun (_ : Unit) => FWb cI q a b9 t9 ++ SWa cI cZ q a)) A) [.ref (q 3)].toArray s 0 0 A) (F0 m 7 ls []) := by
    intro n9
    induction n9 with
    | zero => intro k hf9 h1 hk H locs ls hP hD hS hl; exact absurd hf9 (Nat.not_lt_zero _)
    | succ n9 ih9 =>
      intro k hf9 h1 hk H locs ls hP hD hS hl
      refine lv_iload_n hx hb dX0_wholeAhead_7 rfl (lv_at hl 2 rfl) ?_
      refine lv_bipush (v := nI 100) hx hb dX0_wholeAhead_8 (by decide) ?_
      refine k_icmp_ge (tgt := 33) hx hb (by omega) (by omega) dX0_wholeAhead_10 (by decide) (fun c_10 => ?_) (fun c_10 => ?_)
      · -- c_10 taken
        refine lv_iload_n hx hb dX0_wholeAhead_33 rfl (lv_at hl 1 rfl) ?_
        exact k_iret (v := nI k) hx hb hr hlk rfl () (by rw [hk, show 100 - (a.1 11 + k) = 0 by omega]; show nI k = nI (0 + k); rw [Nat.zero_add]) hP hD hS dX0_wholeAhead_34
      · -- c_10 not taken
        refine lv_aload_n hx hb dX0_wholeAhead_13 rfl (lv_at hl 0 rfl) ?_
        refine va_get (D := D) (ci := 0) (v := .ref (q 2)) (C := RX0) (T := TX0) (N := 6) hx hb hts hinX0 hown hK hP 0 rfl rfl 0 (by decide) (hts _ (List.mem_of_getElem? (i := 2) rfl)) (fun _ h9 => h9) rfl dX0_wholeAhead_14 ?_
        refine lv_iload_n hx hb dX0_wholeAhead_17 rfl (lv_at hl 2 rfl) ?_
        refine k_callVi (n := 1) (wr := [(q 3, .inr (0, [.ref (q 2), .ref (q 31), .int (nI (a.1 11)), .int b9, .int t9, .int (nI (a.1 15))])), (q 31, .inl (cI, 100, .inl (a.2 5)))]) (As := [.int (nI (a.1 11 + k))]) (rest := []) hfix hN hK hP hD hS hA hl.1 (c_X2_holdsFrame l D cI cZ q a (a.1 11 + k) (by omega)) gX0_wholeAhead_X2_holdsFrame rfl (by decide +kernel) rfl ⟨Nat.le_of_ble_eq_true rfl, Nat.le_of_ble_eq_true rfl⟩ [2, 3, 4] [0, 1] rfl rfl (by decide) (by decide) (by decide) 2 rfl rfl rfl (Nat.le_of_ble_eq_true rfl) ⟨Nat.zero_le _, Nat.zero_le _⟩ dX0_wholeAhead_18 (fun r_18 u H locs hw_18 hP hD hS => ?_)
        have hP : va_P D vwCl [(q 3, .inr (0, [.ref (q 2), .ref (q 31), .int (nI (a.1 11)), .int b9, .int t9, .int (nI (a.1 15))])), (q 31, .inl (cI, 100, .inl (a.2 5))), (q 2, .inr (2, [.ref (q 20), .ref (q 21), .int (nI (a.1 8)), .int (nI (a.1 14) - 1), .int (nI (a.1 13))])), (q 20, .inl (cZ, 300, .inl (a.2 2))), (q 21, .inl (cI, 300, .inl (a.2 4)))] H := hP.sub [0, 1, 2, 3, 4] rfl
        have hD : va_D A [(q 3, .inr (0, [.ref (q 2), .ref (q 31), .int (nI (a.1 11)), .int b9, .int t9, .int (nI (a.1 15))])), (q 31, .inl (cI, 100, .inl (a.2 5))), (q 2, .inr (2, [.ref (q 20), .ref (q 21), .int (nI (a.1 8)), .int (nI (a.1 14) - 1), .int (nI (a.1 13))])), (q 20, .inl (cZ, 300, .inl (a.2 2))), (q 21, .inl (cI, 300, .inl (a.2 4)))] := hD.sub [0, 1, 2, 3, 4] (by decide) rfl
        by_cases e_18 : whl (a.2 2) (a.1 11 + k)
        · rw [if_pos e_18] at hw_18
          obtain rfl : r_18 = nI 1 := hw_18
          refine k_if_eq (tgt := 33) hx hb (by decide) dX0_wholeAhead_21 (by decide) (fun q => absurd q (by decide)) (fun _ => ?_)
          refine lv_iinc (v := nI (k + 1)) (lv' := [(1, .int (nI (k + 1))), (0, .ref (q 3)), (2, .int (nI (a.1 11 + k)))]) hx hb dX0_wholeAhead_24 hl (k := 1) rfl (nI_add k 1) (by decide) rfl (fun ls hl => ?_)
          refine lv_iinc (v := nI (a.1 11 + k + 1)) (lv' := [(2, .int (nI (a.1 11 + k + 1))), (1, .int (nI (k + 1))), (0, .ref (q 3))]) hx hb dX0_wholeAhead_27 hl (k := 2) rfl (nI_add (a.1 11 + k) 1) (by decide) rfl (fun ls hl => ?_)
          refine lv_goto (tgt := 7) hx hb dX0_wholeAhead_30 (by decide) ?_
          exact ih9 (k + 1) (by omega) (by omega) (by rw [hk, fillN_t e_18 (by omega), show 100 - (a.1 11 + k) - 1 = 100 - (a.1 11 + (k + 1)) by omega, show a.1 11 + k + 1 = a.1 11 + (k + 1) from rfl]; omega) H locs ls hP hD hS (lv_sub hl [2, 1, 0] rfl)
        · rw [if_neg e_18] at hw_18
          obtain rfl : r_18 = nI 0 := hw_18
          refine k_if_eq (tgt := 33) hx hb (by decide) dX0_wholeAhead_21 (by decide) (fun _ => ?_) (fun q => absurd q (by decide))
          refine lv_iload_n hx hb dX0_wholeAhead_33 rfl (lv_at hl 1 rfl) ?_
          exact k_iret (v := nI k) hx hb hr hlk rfl () (by rw [hk, fillN_f e_18, Nat.zero_add]) hP hD hS dX0_wholeAhead_34
  refine lv_iconst (v := nI 0) hx hb dX0_wholeAhead_0 (by decide) ?_
  refine lv_istore_n (lv' := [(1, .int (nI 0)), (0, .ref (q 3))]) hx hb dX0_wholeAhead_1 rfl hl (by decide) rfl (fun ls hl => ?_)
  refine lv_aload_n hx hb dX0_wholeAhead_2 rfl (lv_at hl 1 rfl) ?_
  refine va_get (D := D) (ci := 0) (v := .int (nI (a.1 11))) (C := RX0) (T := TX0) (N := 6) hx hb hts hinX0 hown hK hP 0 rfl rfl 2 (by decide) (hts _ (List.mem_of_getElem? (i := 1) rfl)) (fun _ h9 => h9) rfl dX0_wholeAhead_3 ?_
  refine lv_istore_n (lv' := [(2, .int (nI (a.1 11))), (1, .int (nI 0)), (0, .ref (q 3))]) hx hb dX0_wholeAhead_6 rfl hl (by decide) rfl (fun ls hl => ?_)
  exact at7 _ 0 (Nat.lt_succ_self _) i11 rfl H locs ls hP hD hS (lv_sub hl [2, 1, 0] rfl)
set_option maxHeartbeats 4000000 in
set_option maxRecDepth 100000 in
theorem c_X0_pace (l : Launch) (D : va_G) (cI cZ : ClassId) (q : Nat → Nat) (a : AS) (b9 t9 : Int32) (i11 : a.1 11 ≤ 100) : kMi l yX0_pace wsX0_pace 2 44 D (TY cI cZ) [.ref (q 3)] [(q 3, .inr (0, [.ref (q 2), .ref (q 31), .int (nI (a.1 11)), .int b9, .int t9, .int (nI (a.1 15))])), (q 31, .inl (cI, 100, .inl (a.2 5))), (q 2, .inr (2, [.ref (q 20), .ref (q 21), .int (nI (a.1 8)), .int (nI (a.1 14) - 1), .int (nI (a.1 13))])), (q 20, .inl (cZ, 300, .inl (a.2 2))), (q 21, .inl (cI, 300, .inl (a.2 4)))] (fun (r : Int32) (_ : Unit) => r = nI (pac (a_fill a))) (fun (_ : Unit) => FWb cI q a b9 t9 ++ SWa cI cZ q a) := by
  have hf9 : a_fill a ≤ 100 := a_fill_le a
  intro sz
  refine k_in (Qc := fun A => va_Qi (fun (r : Int32) (_ : Unit) => r = nI (pac (a_fill a))) (kB D A (fun (_ : Unit) => FWb cI q a b9 t9 ++ SWa cI cZ q a)) A) (cc := cX0_pace) (maxL := 2) (ret := (some .int)) (by decide) rfl (Nat.le_of_ble_eq_true rfl) ?_
  intro p e s m below meth c A ls hfix hr hlk hN hP hK hD hA hS hl
  have hfix : CallFix p m c cX0_pace 2 s [.ref (q 3)].toArray wsX0_pace RX0 := hfix
  have hl : lv_has ls 2 [(0, .ref (q 3))] := hl
  obtain ⟨hx, hb, hml, hown, hts⟩ := id hfix
  have hP : va_P D vwCl [(q 3, .inr (0, [.ref (q 2), .ref (q 31), .int (nI (a.1 11)), .int b9, .int t9, .int (nI (a.1 15))])), (q 31, .inl (cI, 100, .inl (a.2 5))), (q 2, .inr (2, [.ref (q 20), .ref (q 21), .int (nI (a.1 8)), .int (nI (a.1 14) - 1), .int (nI (a.1 13))])), (q 20, .inl (cZ, 300, .inl (a.2 2))), (q 21, .inl (cI, 300, .inl (a.2 4)))] s.heap := hP
  have hD : va_D A [(q 3, .inr (0, [.ref (q 2), .ref (q 31), .int (nI (a.1 11)), .int b9, .int t9, .int (nI (a.1 15))])), (q 31, .inl (cI, 100, .inl (a.2 5))), (q 2, .inr (2, [.ref (q 20), .ref (q 21), .int (nI (a.1 8)), .int (nI (a.1 14) - 1), .int (nI (a.1 13))])), (q 20, .inl (cZ, 300, .inl (a.2 2))), (q 21, .inl (cI, 300, .inl (a.2 4)))] := hD
  have hS : ∃ (H : Heap) (locs : List Loc), H = s.heap ∧ locs = [] ∧ va_S A s.heap H locs := ⟨_, _, rfl, rfl, hS⟩
  obtain ⟨H, locs, hH, hlocs, hS⟩ := hS
  rw [← hH] at hP
  suffices hW9 : W p l e ({ frames := 2, cells := 0, slots := 0, locals := 44 } : Room) s m [.ref (q 3)].toArray below meth c H locs 0 0 (MQ below (va_Qi (fun (r : Int32) (_ : Unit) => r = nI (pac (a_fill a))) (kB D A (fun (_ : Unit) => FWb cI q a b9 t9 ++ SWa cI cZ q a)) A) [.ref (q 3)].toArray s 0 0 A) (F0 m 0 ls []) by rw [hH, hlocs] at hW9; exact hW9
  clear hH hlocs
  refine lv_aload_n hx hb dX0_pace_0 rfl (lv_at hl 0 rfl) ?_
  refine k_callVi (n := 0) (wr := []) (As := []) (rest := []) hfix hN hK hP hD hS hA hl.1 (c_X0_wholeAhead l D cI cZ q a b9 t9 (by omega)) gX0_pace_X0_wholeAhead rfl (by decide +kernel) rfl ⟨Nat.le_of_ble_eq_true rfl, Nat.le_of_ble_eq_true rfl⟩ [0, 1, 2, 3, 4] [] rfl rfl (by decide) (by decide) (by decide) 0 rfl rfl rfl (Nat.le_of_ble_eq_true rfl) ⟨Nat.zero_le _, Nat.zero_le _⟩ dX0_pace_1 (fun r_1 u H locs hw_1 hP hD hS => ?_)
  have hP : va_P D vwCl [(q 3, .inr (0, [.ref (q 2), .ref (q 31), .int (nI (a.1 11)), .int b9, .int t9, .int (nI (a.1 15))])), (q 31, .inl (cI, 100, .inl (a.2 5))), (q 2, .inr (2, [.ref (q 20), .ref (q 21), .int (nI (a.1 8)), .int (nI (a.1 14) - 1), .int (nI (a.1 13))])), (q 20, .inl (cZ, 300, .inl (a.2 2))), (q 21, .inl (cI, 300, .inl (a.2 4)))] H := hP.sub [0, 1, 2, 3, 4] rfl
  have hD : va_D A [(q 3, .inr (0, [.ref (q 2), .ref (q 31), .int (nI (a.1 11)), .int b9, .int t9, .int (nI (a.1 15))])), (q 31, .inl (cI, 100, .inl (a.2 5))), (q 2, .inr (2, [.ref (q 20), .ref (q 21), .int (nI (a.1 8)), .int (nI (a.1 14) - 1), .int (nI (a.1 13))])), (q 20, .inl (cZ, 300, .inl (a.2 2))), (q 21, .inl (cI, 300, .inl (a.2 4)))] := hD.sub [0, 1, 2, 3, 4] (by decide) rfl
  obtain rfl : r_1 = nI (a_fill a) := hw_1
  refine lv_istore_n (lv' := [(1, .int (nI (a_fill a))), (0, .ref (q 3))]) hx hb dX0_pace_4 rfl hl (by decide) rfl (fun ls hl => ?_)
  refine lv_iload_n hx hb dX0_pace_5 rfl (lv_at hl 0 rfl) ?_
  refine lv_bipush (v := nI 6) hx hb dX0_pace_6 (by decide) ?_
  refine k_icmp_lt (tgt := 14) hx hb (by omega) (by omega) dX0_pace_8 (by decide) (fun c_8 => ?_) (fun c_8 => ?_)
  · -- c_8 taken
    refine lv_iload_n hx hb dX0_pace_14 rfl (lv_at hl 0 rfl) ?_
    refine lv_iconst (v := nI 1) hx hb dX0_pace_15 (by decide) ?_
    refine k_icmp_gt (tgt := 24) hx hb (by omega) (by omega) dX0_pace_16 (by decide) (fun c_16 => ?_) (fun c_16 => ?_)
    · -- c_16 taken
      refine lv_bipush (v := nI 10) hx hb dX0_pace_24 (by decide) ?_
      exact k_iret (v := nI 10) hx hb hr hlk rfl () (by rw [pac, if_neg (by omega), if_neg (by omega)]) hP hD hS dX0_pace_26
    · -- c_16 not taken
      refine lv_bipush (v := nI 11) hx hb dX0_pace_19 (by decide) ?_
      refine lv_goto (tgt := 26) hx hb dX0_pace_21 (by decide) ?_
      exact k_iret (v := nI 11) hx hb hr hlk rfl () (by rw [pac, if_neg (by omega), if_pos c_16]) hP hD hS dX0_pace_26
  · -- c_8 not taken
    refine lv_bipush (v := nI 9) hx hb dX0_pace_11 (by decide) ?_
    exact k_iret (v := nI 9) hx hb hr hlk rfl () (by rw [pac, if_pos c_8]) hP hD hS dX0_pace_13
set_option maxHeartbeats 4000000 in
set_option maxRecDepth 100000 in
theorem c_X0_giveTurn (l : Launch) (D : va_G) (cI cZ : ClassId) (q : Nat → Nat) (a : AS) (t9 : Int32) (hI : AI a) (h9 : ¬ a.1 9 = 0) (h11 : a.1 11 < 100) : kMv l yX0_giveTurn wsX0_giveTurn 3 67 D (TY cI cZ) [.ref (q 3), .int (nI (a.1 7))] [(q 3, .inr (0, [.ref (q 2), .ref (q 31), .int (nI (a.1 11)), .int (bT a), .int t9, .int (nI (a.1 15))])), (q 31, .inl (cI, 100, .inl (a.2 5))), (q 2, .inr (2, [.ref (q 20), .ref (q 21), .int (nI (a.1 8)), .int (nI (a.1 14) - 1), .int (nI (a.1 13))])), (q 20, .inl (cZ, 300, .inl (a.2 2))), (q 21, .inl (cI, 300, .inl (a.2 4)))] (fun (_ : Unit) => True) (fun (_ : Unit) => FWa cI q (a_turn a) ++ SWa cI cZ q (a_turn a)) := by
  obtain ⟨⟨i0, i4, i5, i7, i9, i10, i11, i12⟩, ⟨i1, i2, i3⟩, ⟨i8, i13, i14⟩, iQ, iH0, iH1, iW0, iW1, iN⟩ := id hI
  have ho : outc (a.2 2) (a.2 5) (a.1 11) ≤ 3 := a_out_le a
  intro sz
  refine k_in (Qc := fun A => va_Qv (fun (_ : Unit) => True) (kB D A (fun (_ : Unit) => FWa cI q (a_turn a) ++ SWa cI cZ q (a_turn a))) A) (cc := cX0_giveTurn) (maxL := 3) (ret := none) (by decide) rfl (Nat.le_of_ble_eq_true rfl) ?_
  intro p e s m below meth c A ls hfix hr hlk hN hP hK hD hA hS hl
  have hfix : CallFix p m c cX0_giveTurn 3 s [.ref (q 3), .int (nI (a.1 7))].toArray wsX0_giveTurn RX0 := hfix
  have hl : lv_has ls 3 [(0, .ref (q 3)), (1, .int (nI (a.1 7)))] := hl
  obtain ⟨hx, hb, hml, hown, hts⟩ := id hfix
  have hinX0 : ∀ w ∈ wsX00, w ∈ wsX0_giveTurn := fun _ h => List.mem_cons_of_mem _ (List.mem_append_left _ (List.mem_append_right _ h))
  have hP : va_P D vwCl [(q 3, .inr (0, [.ref (q 2), .ref (q 31), .int (nI (a.1 11)), .int (bT a), .int t9, .int (nI (a.1 15))])), (q 31, .inl (cI, 100, .inl (a.2 5))), (q 2, .inr (2, [.ref (q 20), .ref (q 21), .int (nI (a.1 8)), .int (nI (a.1 14) - 1), .int (nI (a.1 13))])), (q 20, .inl (cZ, 300, .inl (a.2 2))), (q 21, .inl (cI, 300, .inl (a.2 4)))] s.heap := hP
  have hD : va_D A [(q 3, .inr (0, [.ref (q 2), .ref (q 31), .int (nI (a.1 11)), .int (bT a), .int t9, .int (nI (a.1 15))])), (q 31, .inl (cI, 100, .inl (a.2 5))), (q 2, .inr (2, [.ref (q 20), .ref (q 21), .int (nI (a.1 8)), .int (nI (a.1 14) - 1), .int (nI (a.1 13))])), (q 20, .inl (cZ, 300, .inl (a.2 2))), (q 21, .inl (cI, 300, .inl (a.2 4)))] := hD
  have hS : ∃ (H : Heap) (locs : List Loc), H = s.heap ∧ locs = [] ∧ va_S A s.heap H locs := ⟨_, _, rfl, rfl, hS⟩
  obtain ⟨H, locs, hH, hlocs, hS⟩ := hS
  rw [← hH] at hP
  suffices hW9 : W p l e ({ frames := 3, cells := 0, slots := 0, locals := 67 } : Room) s m [.ref (q 3), .int (nI (a.1 7))].toArray below meth c H locs 0 0 (MQ below (va_Qv (fun (_ : Unit) => True) (kB D A (fun (_ : Unit) => FWa cI q (a_turn a) ++ SWa cI cZ q (a_turn a))) A) [.ref (q 3), .int (nI (a.1 7))].toArray s 0 0 A) (F0 m 0 ls []) by rw [hH, hlocs] at hW9; exact hW9
  clear hH hlocs
  have at45 : ∀   (H : Heap) (locs : List Loc) (ls : Array Slot) (hP : va_P D vwCl [(q 3, .inr (0, [.ref (q 2), .ref (q 31), .int (nI (a.1 11)), .int (bT a), .int t9, .int (nI ((a_turn0 a).1 15))])), (q 31, .inl (cI, 100, .inl (upd (a.2 5) (a.1 11) (nI (a_out a))))), (q 2, .inr (2, [.ref (q 20), .ref (q 21), .int (nI (a.1 8)), .int (nI (a.1 14) - 1), .int (nI (a.1 13))])), (q 20, .inl (cZ, 300, .inl (a.2 2))), (q 21, .inl (cI, 300, .inl (a.2 4)))] H) (hD : va_D A [(q 3, .inr (0, [.ref (q 2), .ref (q 31), .int (nI (a.1 11)), .int (bT a), .int t9, .int (nI ((a_turn0 a).1 15))])), (q 31, .inl (cI, 100, .inl (upd (a.2 5) (a.1 11) (nI (a_out a))))), (q 2, .inr (2, [.ref (q 20), .ref (q 21), .int (nI (a.1 8)), .int (nI (a.1 14) - 1), .int (nI (a.1 13))])), (q 20, .inl (cZ, 300, .inl (a.2 2))), (q 21, .inl (cI, 300, .inl (a.2 4)))]) (hS : va_S A s.heap H locs) (hl : lv_has ls 3 [(0, .ref (q 3)), (1, .int (nI (a.1 7)))]), W p l e ({ frames := 3, cells := 0, slots := 0, locals := 67 } : Room) s m [.ref (q 3), .int (nI (a.1 7))].toArray below meth c H locs 0 0 (MQ below (va_Qv (fun (_ : Unit) => True) (kB D A (fun (_ : Unit) => FWa cI q (a_turn a) ++ SWa cI cZ q (a_turn a))) A) [.ref (q 3), .int (nI (a.1 7))].toArray s 0 0 A) (F0 m 45 ls []) := by
    intro H locs ls hP hD hS hl
    refine lv_aload_n hx hb dX0_giveTurn_45 rfl (lv_at hl 0 rfl) ?_
    refine lv_dup hx hb dX0_giveTurn_46 rfl ?_
    refine va_get (D := D) (ci := 0) (v := .int (nI (a.1 11))) (C := RX0) (T := TX0) (N := 6) hx hb hts hinX0 hown hK hP 0 rfl rfl 2 (by decide) (hts _ (List.mem_of_getElem? (i := 1) rfl)) (fun _ h9 => h9) rfl dX0_giveTurn_47 ?_
    refine lv_iconst (v := nI 1) hx hb dX0_giveTurn_50 (by decide) ?_
    refine k_iadd hx hb dX0_giveTurn_51 ?_
    refine va_put (D := D) (ci := 0) (v := .int (nI ((a.1 11) + 1))) (ty := .int) (C := RX0) (T := TX0) (N := 6) hx hb hts hinX0 tyX0 tyX0_ok nmX0 hown hK hP hD hS 0 rfl rfl 2 (by decide) (hts _ (List.mem_of_getElem? (i := 1) rfl)) (fun _ h9 => h9) rfl (by decide +kernel) rfl rfl (Nat.le_of_ble_eq_true rfl) dX0_giveTurn_52 (fun H locs hP hD hS => ?_)
    have hP : va_P D vwCl [(q 3, .inr (0, [.ref (q 2), .ref (q 31), .int (nI ((a.1 11) + 1)), .int (bT a), .int t9, .int (nI ((a_turn0 a).1 15))])), (q 31, .inl (cI, 100, .inl (upd (a.2 5) (a.1 11) (nI (a_out a))))), (q 2, .inr (2, [.ref (q 20), .ref (q 21), .int (nI (a.1 8)), .int (nI (a.1 14) - 1), .int (nI (a.1 13))])), (q 20, .inl (cZ, 300, .inl (a.2 2))), (q 21, .inl (cI, 300, .inl (a.2 4)))] H := hP
    have hD : va_D A [(q 3, .inr (0, [.ref (q 2), .ref (q 31), .int (nI ((a.1 11) + 1)), .int (bT a), .int t9, .int (nI ((a_turn0 a).1 15))])), (q 31, .inl (cI, 100, .inl (upd (a.2 5) (a.1 11) (nI (a_out a))))), (q 2, .inr (2, [.ref (q 20), .ref (q 21), .int (nI (a.1 8)), .int (nI (a.1 14) - 1), .int (nI (a.1 13))])), (q 20, .inl (cZ, 300, .inl (a.2 2))), (q 21, .inl (cI, 300, .inl (a.2 4)))] := hD
    refine lv_aload_n hx hb dX0_giveTurn_55 rfl (lv_at hl 0 rfl) ?_
    refine lv_aload_n hx hb dX0_giveTurn_56 rfl (lv_at hl 0 rfl) ?_
    refine va_get (D := D) (ci := 0) (v := .int (nI ((a.1 11) + 1))) (C := RX0) (T := TX0) (N := 6) hx hb hts hinX0 hown hK hP 0 rfl rfl 2 (by decide) (hts _ (List.mem_of_getElem? (i := 1) rfl)) (fun _ h9 => h9) rfl dX0_giveTurn_57 ?_
    refine lv_bipush (v := nI 100) hx hb dX0_giveTurn_60 (by decide) ?_
    refine k_icmp_ge (tgt := 74) hx hb (by omega) (by omega) dX0_giveTurn_62 (by decide) (fun c_62 => ?_) (fun c_62 => ?_)
    · -- c_62 taken
      refine lv_iconst (v := (-1)) hx hb dX0_giveTurn_74 (by decide) ?_
      refine va_put (D := D) (ci := 0) (v := .int (-1)) (ty := .int) (C := RX0) (T := TX0) (N := 6) hx hb hts hinX0 tyX0 tyX0_ok nmX0 hown hK hP hD hS 0 rfl rfl 4 (by decide) (hts _ (List.mem_of_getElem? (i := 4) rfl)) (fun _ h9 => h9) rfl (by decide +kernel) rfl rfl (Nat.le_of_ble_eq_true rfl) dX0_giveTurn_75 (fun H locs hP hD hS => ?_)
      have hP : va_P D vwCl [(q 3, .inr (0, [.ref (q 2), .ref (q 31), .int (nI ((a.1 11) + 1)), .int (bT a), .int (-1), .int (nI ((a_turn0 a).1 15))])), (q 31, .inl (cI, 100, .inl (upd (a.2 5) (a.1 11) (nI (a_out a))))), (q 2, .inr (2, [.ref (q 20), .ref (q 21), .int (nI (a.1 8)), .int (nI (a.1 14) - 1), .int (nI (a.1 13))])), (q 20, .inl (cZ, 300, .inl (a.2 2))), (q 21, .inl (cI, 300, .inl (a.2 4)))] H := hP
      have hD : va_D A [(q 3, .inr (0, [.ref (q 2), .ref (q 31), .int (nI ((a.1 11) + 1)), .int (bT a), .int (-1), .int (nI ((a_turn0 a).1 15))])), (q 31, .inl (cI, 100, .inl (upd (a.2 5) (a.1 11) (nI (a_out a))))), (q 2, .inr (2, [.ref (q 20), .ref (q 21), .int (nI (a.1 8)), .int (nI (a.1 14) - 1), .int (nI (a.1 13))])), (q 20, .inl (cZ, 300, .inl (a.2 2))), (q 21, .inl (cI, 300, .inl (a.2 4)))] := hD
      exact k_vret hx hb hr hlk () trivial (by unfold FWa; rw [show tT (a_turn a) = -1 from if_pos (Or.inr c_62)]; exact hP) (by unfold FWa; rw [show tT (a_turn a) = -1 from if_pos (Or.inr c_62)]; exact hD) hS dX0_giveTurn_78
    · -- c_62 not taken
      refine lv_iload_n hx hb dX0_giveTurn_65 rfl (lv_at hl 1 rfl) ?_
      refine lv_aload_n hx hb dX0_giveTurn_66 rfl (lv_at hl 0 rfl) ?_
      refine k_callVi (n := 0) (wr := []) (As := []) (rest := [.int (nI (a.1 7)), .ref (q 3)]) hfix hN hK hP hD hS hA hl.1 (c_X0_pace l D cI cZ q (a_turn0 a) (bT a) t9 (show a.1 11 + 1 ≤ 100 by omega)) gX0_giveTurn_X0_pace rfl (by decide +kernel) rfl ⟨Nat.le_of_ble_eq_true rfl, Nat.le_of_ble_eq_true rfl⟩ [0, 1, 2, 3, 4] [] rfl rfl (by decide) (by decide) (by decide) 0 rfl rfl rfl (Nat.le_of_ble_eq_true rfl) ⟨Nat.zero_le _, Nat.zero_le _⟩ dX0_giveTurn_67 (fun r_67 u H locs hw_67 hP hD hS => ?_)
      have hP : va_P D vwCl [(q 3, .inr (0, [.ref (q 2), .ref (q 31), .int (nI ((a.1 11) + 1)), .int (bT a), .int t9, .int (nI ((a_turn0 a).1 15))])), (q 31, .inl (cI, 100, .inl (upd (a.2 5) (a.1 11) (nI (a_out a))))), (q 2, .inr (2, [.ref (q 20), .ref (q 21), .int (nI (a.1 8)), .int (nI (a.1 14) - 1), .int (nI (a.1 13))])), (q 20, .inl (cZ, 300, .inl (a.2 2))), (q 21, .inl (cI, 300, .inl (a.2 4)))] H := hP.sub [0, 1, 2, 3, 4] rfl
      have hD : va_D A [(q 3, .inr (0, [.ref (q 2), .ref (q 31), .int (nI ((a.1 11) + 1)), .int (bT a), .int t9, .int (nI ((a_turn0 a).1 15))])), (q 31, .inl (cI, 100, .inl (upd (a.2 5) (a.1 11) (nI (a_out a))))), (q 2, .inr (2, [.ref (q 20), .ref (q 21), .int (nI (a.1 8)), .int (nI (a.1 14) - 1), .int (nI (a.1 13))])), (q 20, .inl (cZ, 300, .inl (a.2 2))), (q 21, .inl (cI, 300, .inl (a.2 4)))] := hD.sub [0, 1, 2, 3, 4] (by decide) rfl
      obtain rfl : r_67 = nI (pac (a_fill (a_turn0 a))) := hw_67
      refine k_iadd hx hb dX0_giveTurn_70 ?_
      refine lv_goto (tgt := 75) hx hb dX0_giveTurn_71 (by decide) ?_
      refine va_put (D := D) (ci := 0) (v := .int (nI ((a.1 7) + (pac (a_fill (a_turn0 a)))))) (ty := .int) (C := RX0) (T := TX0) (N := 6) hx hb hts hinX0 tyX0 tyX0_ok nmX0 hown hK hP hD hS 0 rfl rfl 4 (by decide) (hts _ (List.mem_of_getElem? (i := 4) rfl)) (fun _ h9 => h9) rfl (by decide +kernel) rfl rfl (Nat.le_of_ble_eq_true rfl) dX0_giveTurn_75 (fun H locs hP hD hS => ?_)
      have hP : va_P D vwCl [(q 3, .inr (0, [.ref (q 2), .ref (q 31), .int (nI ((a.1 11) + 1)), .int (bT a), .int (nI ((a.1 7) + (pac (a_fill (a_turn0 a))))), .int (nI ((a_turn0 a).1 15))])), (q 31, .inl (cI, 100, .inl (upd (a.2 5) (a.1 11) (nI (a_out a))))), (q 2, .inr (2, [.ref (q 20), .ref (q 21), .int (nI (a.1 8)), .int (nI (a.1 14) - 1), .int (nI (a.1 13))])), (q 20, .inl (cZ, 300, .inl (a.2 2))), (q 21, .inl (cI, 300, .inl (a.2 4)))] H := hP
      have hD : va_D A [(q 3, .inr (0, [.ref (q 2), .ref (q 31), .int (nI ((a.1 11) + 1)), .int (bT a), .int (nI ((a.1 7) + (pac (a_fill (a_turn0 a))))), .int (nI ((a_turn0 a).1 15))])), (q 31, .inl (cI, 100, .inl (upd (a.2 5) (a.1 11) (nI (a_out a))))), (q 2, .inr (2, [.ref (q 20), .ref (q 21), .int (nI (a.1 8)), .int (nI (a.1 14) - 1), .int (nI (a.1 13))])), (q 20, .inl (cZ, 300, .inl (a.2 2))), (q 21, .inl (cI, 300, .inl (a.2 4)))] := hD
      exact k_vret hx hb hr hlk () trivial (by unfold FWa; rw [show tT (a_turn a) = nI (a.1 7 + pac (a_fill (a_turn0 a))) from if_neg (fun h => h.elim h9 (fun h => absurd h (Nat.not_le.mpr c_62)))]; exact hP) (by unfold FWa; rw [show tT (a_turn a) = nI (a.1 7 + pac (a_fill (a_turn0 a))) from if_neg (fun h => h.elim h9 (fun h => absurd h (Nat.not_le.mpr c_62)))]; exact hD) hS dX0_giveTurn_78
  refine lv_aload_n hx hb dX0_giveTurn_0 rfl (lv_at hl 0 rfl) ?_
  refine va_get (D := D) (ci := 0) (v := .int (nI (a.1 11))) (C := RX0) (T := TX0) (N := 6) hx hb hts hinX0 hown hK hP 0 rfl rfl 2 (by decide) (hts _ (List.mem_of_getElem? (i := 1) rfl)) (fun _ h9 => h9) rfl dX0_giveTurn_1 ?_
  refine k_callNi (n := 1) (As := [.int (nI (a.1 11))]) (rest := []) hfix hN hK hP hD hS hA hl.1 (c_X3_isFrame l D cI cZ (nI (a.1 11))) (fun _ => rfl) gX0_giveTurn_X3_isFrame_n50 rfl hN.m50 (hts _ (List.mem_of_getElem? (i := 6) rfl)) (hts _ (List.mem_of_getElem? (i := 5) rfl)) (by decide +kernel) rfl ⟨Nat.le_of_ble_eq_true rfl, Nat.le_of_ble_eq_true rfl⟩ [0, 1, 2, 3, 4] rfl (by decide) rfl (Nat.le_of_ble_eq_true rfl) ⟨Nat.zero_le _, Nat.zero_le _⟩ dX0_giveTurn_4 (fun r_4 u H locs hw_4 hP hD hS => ?_)
  have e_4 : (inR (nI (a.1 11)) 100) := (nI_inR (by decide) h11)
  rw [if_pos e_4] at hw_4
  obtain rfl : r_4 = nI 1 := hw_4
  refine k_if_ne (tgt := 11) hx hb (by decide) dX0_giveTurn_7 (by decide) (fun _ => ?_) (fun q => absurd q (by decide))
  refine lv_aload_n hx hb dX0_giveTurn_11 rfl (lv_at hl 0 rfl) ?_
  refine lv_aload_n hx hb dX0_giveTurn_12 rfl (lv_at hl 0 rfl) ?_
  refine va_get (D := D) (ci := 0) (v := .int (nI (a.1 11))) (C := RX0) (T := TX0) (N := 6) hx hb hts hinX0 hown hK hP 0 rfl rfl 2 (by decide) (hts _ (List.mem_of_getElem? (i := 1) rfl)) (fun _ h9 => h9) rfl dX0_giveTurn_13 ?_
  refine k_callVi (n := 1) (wr := []) (As := [.int (nI (a.1 11))]) (rest := []) hfix hN hK hP hD hS hA hl.1 (c_X0_outcomeOf l D cI cZ q a (bT a) t9 (a.1 11) (by omega)) gX0_giveTurn_X0_outcomeOf rfl (by decide +kernel) rfl ⟨Nat.le_of_ble_eq_true rfl, Nat.le_of_ble_eq_true rfl⟩ [0, 1, 2, 3, 4] [] rfl rfl (by decide) (by decide) (by decide) 0 rfl rfl rfl (Nat.le_of_ble_eq_true rfl) ⟨Nat.zero_le _, Nat.zero_le _⟩ dX0_giveTurn_16 (fun r_16 u H locs hw_16 hP hD hS => ?_)
  have hP : va_P D vwCl [(q 3, .inr (0, [.ref (q 2), .ref (q 31), .int (nI (a.1 11)), .int (bT a), .int t9, .int (nI (a.1 15))])), (q 31, .inl (cI, 100, .inl (a.2 5))), (q 2, .inr (2, [.ref (q 20), .ref (q 21), .int (nI (a.1 8)), .int (nI (a.1 14) - 1), .int (nI (a.1 13))])), (q 20, .inl (cZ, 300, .inl (a.2 2))), (q 21, .inl (cI, 300, .inl (a.2 4)))] H := hP.sub [0, 1, 2, 3, 4] rfl
  have hD : va_D A [(q 3, .inr (0, [.ref (q 2), .ref (q 31), .int (nI (a.1 11)), .int (bT a), .int t9, .int (nI (a.1 15))])), (q 31, .inl (cI, 100, .inl (a.2 5))), (q 2, .inr (2, [.ref (q 20), .ref (q 21), .int (nI (a.1 8)), .int (nI (a.1 14) - 1), .int (nI (a.1 13))])), (q 20, .inl (cZ, 300, .inl (a.2 2))), (q 21, .inl (cI, 300, .inl (a.2 4)))] := hD.sub [0, 1, 2, 3, 4] (by decide) rfl
  obtain rfl : r_16 = nI (outc (a.2 2) (a.2 5) (a.1 11)) := hw_16
  refine lv_istore_n (lv' := [(2, .int (nI (outc (a.2 2) (a.2 5) (a.1 11)))), (0, .ref (q 3)), (1, .int (nI (a.1 7)))]) hx hb dX0_giveTurn_19 rfl hl (by decide) rfl (fun ls hl => ?_)
  refine lv_aload_n hx hb dX0_giveTurn_20 rfl (lv_at hl 1 rfl) ?_
  refine va_get (D := D) (ci := 0) (v := .ref (q 31)) (C := RX0) (T := TX0) (N := 6) hx hb hts hinX0 hown hK hP 0 rfl rfl 1 (by decide) (hts _ (List.mem_of_getElem? (i := 2) rfl)) (fun _ h9 => h9) rfl dX0_giveTurn_21 ?_
  refine lv_aload_n hx hb dX0_giveTurn_24 rfl (lv_at hl 1 rfl) ?_
  refine va_get (D := D) (ci := 0) (v := .int (nI (a.1 11))) (C := RX0) (T := TX0) (N := 6) hx hb hts hinX0 hown hK hP 0 rfl rfl 2 (by decide) (hts _ (List.mem_of_getElem? (i := 1) rfl)) (fun _ h9 => h9) rfl dX0_giveTurn_25 ?_
  refine lv_iload_n hx hb dX0_giveTurn_28 rfl (lv_at hl 0 rfl) ?_
  refine k_iast hx hb hK hP hD hS 1 0 rfl rfl (by omega) (Nat.le_of_ble_eq_true rfl) dX0_giveTurn_29 (fun H locs hP hD hS => ?_)
  have hP : va_P D vwCl [(q 3, .inr (0, [.ref (q 2), .ref (q 31), .int (nI (a.1 11)), .int (bT a), .int t9, .int (nI (a.1 15))])), (q 31, .inl (cI, 100, .inl (upd (a.2 5) (a.1 11) (nI (outc (a.2 2) (a.2 5) (a.1 11)))))), (q 2, .inr (2, [.ref (q 20), .ref (q 21), .int (nI (a.1 8)), .int (nI (a.1 14) - 1), .int (nI (a.1 13))])), (q 20, .inl (cZ, 300, .inl (a.2 2))), (q 21, .inl (cI, 300, .inl (a.2 4)))] H := hP
  have hD : va_D A [(q 3, .inr (0, [.ref (q 2), .ref (q 31), .int (nI (a.1 11)), .int (bT a), .int t9, .int (nI (a.1 15))])), (q 31, .inl (cI, 100, .inl (upd (a.2 5) (a.1 11) (nI (outc (a.2 2) (a.2 5) (a.1 11)))))), (q 2, .inr (2, [.ref (q 20), .ref (q 21), .int (nI (a.1 8)), .int (nI (a.1 14) - 1), .int (nI (a.1 13))])), (q 20, .inl (cZ, 300, .inl (a.2 2))), (q 21, .inl (cI, 300, .inl (a.2 4)))] := hD
  refine lv_iload_n hx hb dX0_giveTurn_30 rfl (lv_at hl 0 rfl) ?_
  refine lv_iconst (v := nI 1) hx hb dX0_giveTurn_31 (by decide) ?_
  refine k_icmp_ne (tgt := 45) hx hb (by omega) (by omega) dX0_giveTurn_32 (by decide) (fun c_32 => ?_) (fun c_32 => ?_)
  · -- c_32 taken
    exact at45 H locs ls (by rw [show (a_turn0 a).1 15 = a.1 15 from if_neg c_32]; exact hP) (by rw [show (a_turn0 a).1 15 = a.1 15 from if_neg c_32]; exact hD) hS (lv_sub hl [1, 2] rfl)
  · -- c_32 not taken
    refine lv_aload_n hx hb dX0_giveTurn_35 rfl (lv_at hl 1 rfl) ?_
    refine lv_dup hx hb dX0_giveTurn_36 rfl ?_
    refine va_get (D := D) (ci := 0) (v := .int (nI (a.1 15))) (C := RX0) (T := TX0) (N := 6) hx hb hts hinX0 hown hK hP 0 rfl rfl 5 (by decide) (hts _ (List.mem_of_getElem? (i := 3) rfl)) (fun _ h9 => h9) rfl dX0_giveTurn_37 ?_
    refine lv_iconst (v := nI 1) hx hb dX0_giveTurn_40 (by decide) ?_
    refine k_iadd hx hb dX0_giveTurn_41 ?_
    refine va_put (D := D) (ci := 0) (v := .int (nI ((a.1 15) + 1))) (ty := .int) (C := RX0) (T := TX0) (N := 6) hx hb hts hinX0 tyX0 tyX0_ok nmX0 hown hK hP hD hS 0 rfl rfl 5 (by decide) (hts _ (List.mem_of_getElem? (i := 3) rfl)) (fun _ h9 => h9) rfl (by decide +kernel) rfl rfl (Nat.le_of_ble_eq_true rfl) dX0_giveTurn_42 (fun H locs hP hD hS => ?_)
    have hP : va_P D vwCl [(q 3, .inr (0, [.ref (q 2), .ref (q 31), .int (nI (a.1 11)), .int (bT a), .int t9, .int (nI ((a.1 15) + 1))])), (q 31, .inl (cI, 100, .inl (upd (a.2 5) (a.1 11) (nI (outc (a.2 2) (a.2 5) (a.1 11)))))), (q 2, .inr (2, [.ref (q 20), .ref (q 21), .int (nI (a.1 8)), .int (nI (a.1 14) - 1), .int (nI (a.1 13))])), (q 20, .inl (cZ, 300, .inl (a.2 2))), (q 21, .inl (cI, 300, .inl (a.2 4)))] H := hP
    have hD : va_D A [(q 3, .inr (0, [.ref (q 2), .ref (q 31), .int (nI (a.1 11)), .int (bT a), .int t9, .int (nI ((a.1 15) + 1))])), (q 31, .inl (cI, 100, .inl (upd (a.2 5) (a.1 11) (nI (outc (a.2 2) (a.2 5) (a.1 11)))))), (q 2, .inr (2, [.ref (q 20), .ref (q 21), .int (nI (a.1 8)), .int (nI (a.1 14) - 1), .int (nI (a.1 13))])), (q 20, .inl (cZ, 300, .inl (a.2 2))), (q 21, .inl (cI, 300, .inl (a.2 4)))] := hD
    exact at45 H locs ls (by rw [show (a_turn0 a).1 15 = a.1 15 + 1 from if_pos c_32]; exact hP) (by rw [show (a_turn0 a).1 15 = a.1 15 + 1 from if_pos c_32]; exact hD) hS (lv_sub hl [1, 2] rfl)
set_option maxHeartbeats 4000000 in
set_option maxRecDepth 100000 in
theorem c_X0_play (l : Launch) (D : va_G) (cI cZ : ClassId) (q : Nat → Nat) (a : AS) (hI : AI a) : kMv l yX0_play wsX0_play 4 89 D (TY cI cZ) [.ref (q 3), .int (nI (a.1 7))] [(q 3, .inr (0, [.ref (q 2), .ref (q 31), .int (nI (a.1 11)), .int (bT a), .int (tT a), .int (nI (a.1 15))])), (q 31, .inl (cI, 100, .inl (a.2 5))), (q 2, .inr (2, [.ref (q 20), .ref (q 21), .int (nI (a.1 8)), .int (nI (a.1 14) - 1), .int (nI (a.1 13))])), (q 20, .inl (cZ, 300, .inl (a.2 2))), (q 21, .inl (cI, 300, .inl (a.2 4)))] (fun (_ : Unit) => True) (fun (_ : Unit) => FWa cI q (a_play a) ++ SWa cI cZ q (a_play a)) := by
  obtain ⟨⟨i0, i4, i5, i7, i9, i10, i11, i12⟩, ⟨i1, i2, i3⟩, ⟨i8, i13, i14⟩, iQ, iH0, iH1, iW0, iW1, iN⟩ := id hI
  have hIb : AI (a_begin a) := ⟨⟨i0, i4, i5, i7, Nat.le_refl 1, i7, i11, i12⟩, ⟨i1, i2, i3⟩, ⟨i8, i13, i14⟩, iQ, iH0, iH1, iW0, iW1, fun h => absurd h (show ¬ 1 = 0 by decide)⟩
  intro sz
  refine k_in (Qc := fun A => va_Qv (fun (_ : Unit) => True) (kB D A (fun (_ : Unit) => FWa cI q (a_play a) ++ SWa cI cZ q (a_play a))) A) (cc := cX0_play) (maxL := 2) (ret := none) (by decide) rfl (Nat.le_of_ble_eq_true rfl) ?_
  intro p e s m below meth c A ls hfix hr hlk hN hP hK hD hA hS hl
  have hfix : CallFix p m c cX0_play 2 s [.ref (q 3), .int (nI (a.1 7))].toArray wsX0_play RX0 := hfix
  have hl : lv_has ls 2 [(0, .ref (q 3)), (1, .int (nI (a.1 7)))] := hl
  obtain ⟨hx, hb, hml, hown, hts⟩ := id hfix
  have hinX0 : ∀ w ∈ wsX00, w ∈ wsX0_play := fun _ h => List.mem_cons_of_mem _ (List.mem_append_left _ (List.mem_append_right _ h))
  have hP : va_P D vwCl [(q 3, .inr (0, [.ref (q 2), .ref (q 31), .int (nI (a.1 11)), .int (bT a), .int (tT a), .int (nI (a.1 15))])), (q 31, .inl (cI, 100, .inl (a.2 5))), (q 2, .inr (2, [.ref (q 20), .ref (q 21), .int (nI (a.1 8)), .int (nI (a.1 14) - 1), .int (nI (a.1 13))])), (q 20, .inl (cZ, 300, .inl (a.2 2))), (q 21, .inl (cI, 300, .inl (a.2 4)))] s.heap := hP
  have hD : va_D A [(q 3, .inr (0, [.ref (q 2), .ref (q 31), .int (nI (a.1 11)), .int (bT a), .int (tT a), .int (nI (a.1 15))])), (q 31, .inl (cI, 100, .inl (a.2 5))), (q 2, .inr (2, [.ref (q 20), .ref (q 21), .int (nI (a.1 8)), .int (nI (a.1 14) - 1), .int (nI (a.1 13))])), (q 20, .inl (cZ, 300, .inl (a.2 2))), (q 21, .inl (cI, 300, .inl (a.2 4)))] := hD
  have hS : ∃ (H : Heap) (locs : List Loc), H = s.heap ∧ locs = [] ∧ va_S A s.heap H locs := ⟨_, _, rfl, rfl, hS⟩
  obtain ⟨H, locs, hH, hlocs, hS⟩ := hS
  rw [← hH] at hP
  suffices hW9 : W p l e ({ frames := 4, cells := 0, slots := 0, locals := 89 } : Room) s m [.ref (q 3), .int (nI (a.1 7))].toArray below meth c H locs 0 0 (MQ below (va_Qv (fun (_ : Unit) => True) (kB D A (fun (_ : Unit) => FWa cI q (a_play a) ++ SWa cI cZ q (a_play a))) A) [.ref (q 3), .int (nI (a.1 7))].toArray s 0 0 A) (F0 m 0 ls []) by rw [hH, hlocs] at hW9; exact hW9
  clear hH hlocs
  refine lv_aload_n hx hb dX0_play_0 rfl (lv_at hl 0 rfl) ?_
  refine va_get (D := D) (ci := 0) (v := .int (bT a)) (C := RX0) (T := TX0) (N := 6) hx hb hts hinX0 hown hK hP 0 rfl rfl 3 (by decide) (hts _ (List.mem_of_getElem? (i := 1) rfl)) (fun _ h9 => h9) rfl dX0_play_1 ?_
  refine lv_iconst (v := (-1)) hx hb dX0_play_4 (by decide) ?_
  refine lv_icmp_ne (tgt := 25) hx hb dX0_play_5 (by decide) (fun c_5 => ?_) (fun c_5 => ?_)
  · -- c_5 taken
    have h9 : ¬ a.1 9 = 0 := fun h => c_5 ((bT_m1 (by omega)).mpr h)
    refine lv_aload_n hx hb dX0_play_25 rfl (lv_at hl 0 rfl) ?_
    refine va_get (D := D) (ci := 0) (v := .int (tT a)) (C := RX0) (T := TX0) (N := 6) hx hb hts hinX0 hown hK hP 0 rfl rfl 4 (by decide) (hts _ (List.mem_of_getElem? (i := 2) rfl)) (fun _ h9 => h9) rfl dX0_play_26 ?_
    refine lv_iload_n hx hb dX0_play_29 rfl (lv_at hl 1 rfl) ?_
    refine lv_icmp_ne (tgt := 38) hx hb dX0_play_30 (by decide) (fun c_30 => ?_) (fun c_30 => ?_)
    · -- c_30 taken
      exact k_vret hx hb hr hlk () trivial (by rw [show a_play a = a from by rw [a_play, if_neg h9, if_neg (fun h => c_30 ((tT_t (by omega) (by omega)).mpr ⟨h9, h⟩))]]; exact hP) (by rw [show a_play a = a from by rw [a_play, if_neg h9, if_neg (fun h => c_30 ((tT_t (by omega) (by omega)).mpr ⟨h9, h⟩))]]; exact hD) hS dX0_play_38
    · -- c_30 not taken
      refine lv_aload_n hx hb dX0_play_33 rfl (lv_at hl 0 rfl) ?_
      refine lv_iload_n hx hb dX0_play_34 rfl (lv_at hl 1 rfl) ?_
      refine k_callVv (n := 1) (wr := []) (As := [.int (nI (a.1 7))]) (rest := []) hfix hN hK hP hD hS hA hl.1 (c_X0_giveTurn l D cI cZ q a (tT a) hI h9 ((tT_t (by omega) (by omega)).mp c_30).2.1) gX0_play_X0_giveTurn rfl (by decide +kernel) rfl ⟨Nat.le_of_ble_eq_true rfl, Nat.le_of_ble_eq_true rfl⟩ [0, 1, 2, 3, 4] [] rfl rfl (by decide) (by decide) (by decide) 0 rfl rfl rfl (Nat.le_of_ble_eq_true rfl) ⟨Nat.zero_le _, Nat.zero_le _⟩ dX0_play_35 (fun u H locs hw_35 hP hD hS => ?_)
      have hP : va_P D vwCl [(q 3, .inr (0, [.ref (q 2), .ref (q 31), .int (nI ((a_turn a).1 11)), .int (bT (a_turn a)), .int (tT (a_turn a)), .int (nI ((a_turn a).1 15))])), (q 31, .inl (cI, 100, .inl ((a_turn a).2 5))), (q 2, .inr (2, [.ref (q 20), .ref (q 21), .int (nI ((a_turn a).1 8)), .int (nI ((a_turn a).1 14) - 1), .int (nI ((a_turn a).1 13))])), (q 20, .inl (cZ, 300, .inl ((a_turn a).2 2))), (q 21, .inl (cI, 300, .inl ((a_turn a).2 4)))] H := hP.sub [0, 1, 2, 3, 4] rfl
      have hD : va_D A [(q 3, .inr (0, [.ref (q 2), .ref (q 31), .int (nI ((a_turn a).1 11)), .int (bT (a_turn a)), .int (tT (a_turn a)), .int (nI ((a_turn a).1 15))])), (q 31, .inl (cI, 100, .inl ((a_turn a).2 5))), (q 2, .inr (2, [.ref (q 20), .ref (q 21), .int (nI ((a_turn a).1 8)), .int (nI ((a_turn a).1 14) - 1), .int (nI ((a_turn a).1 13))])), (q 20, .inl (cZ, 300, .inl ((a_turn a).2 2))), (q 21, .inl (cI, 300, .inl ((a_turn a).2 4)))] := hD.sub [0, 1, 2, 3, 4] (by decide) rfl
      exact k_vret hx hb hr hlk () trivial (by rw [show a_play a = a_turn a from by rw [a_play, if_neg h9, if_pos ((tT_t (by omega) (by omega)).mp c_30).2]]; exact hP) (by rw [show a_play a = a_turn a from by rw [a_play, if_neg h9, if_pos ((tT_t (by omega) (by omega)).mp c_30).2]]; exact hD) hS dX0_play_38
  · -- c_5 not taken
    have h9 : a.1 9 = 0 := (bT_m1 (by omega)).mp c_5
    refine lv_aload_n hx hb dX0_play_8 rfl (lv_at hl 0 rfl) ?_
    refine k_callVi (n := 0) (wr := []) (As := []) (rest := []) hfix hN hK hP hD hS hA hl.1 (c_X0_canBegin l D cI cZ q a (bT a) (tT a) ) gX0_play_X0_canBegin rfl (by decide +kernel) rfl ⟨Nat.le_of_ble_eq_true rfl, Nat.le_of_ble_eq_true rfl⟩ [0, 1, 2, 3, 4] [] rfl rfl (by decide) (by decide) (by decide) 0 rfl rfl rfl (Nat.le_of_ble_eq_true rfl) ⟨Nat.zero_le _, Nat.zero_le _⟩ dX0_play_9 (fun r_9 u H locs hw_9 hP hD hS => ?_)
    have hP : va_P D vwCl [(q 3, .inr (0, [.ref (q 2), .ref (q 31), .int (nI (a.1 11)), .int (bT a), .int (tT a), .int (nI (a.1 15))])), (q 31, .inl (cI, 100, .inl (a.2 5))), (q 2, .inr (2, [.ref (q 20), .ref (q 21), .int (nI (a.1 8)), .int (nI (a.1 14) - 1), .int (nI (a.1 13))])), (q 20, .inl (cZ, 300, .inl (a.2 2))), (q 21, .inl (cI, 300, .inl (a.2 4)))] H := hP.sub [0, 1, 2, 3, 4] rfl
    have hD : va_D A [(q 3, .inr (0, [.ref (q 2), .ref (q 31), .int (nI (a.1 11)), .int (bT a), .int (tT a), .int (nI (a.1 15))])), (q 31, .inl (cI, 100, .inl (a.2 5))), (q 2, .inr (2, [.ref (q 20), .ref (q 21), .int (nI (a.1 8)), .int (nI (a.1 14) - 1), .int (nI (a.1 13))])), (q 20, .inl (cZ, 300, .inl (a.2 2))), (q 21, .inl (cI, 300, .inl (a.2 4)))] := hD.sub [0, 1, 2, 3, 4] (by decide) rfl
    by_cases e_9 : whl (a.2 2) 0 ∧ whl (a.2 2) 1 ∧ whl (a.2 2) 2
    · rw [if_pos e_9] at hw_9
      obtain rfl : r_9 = nI 1 := hw_9
      refine k_if_eq (tgt := 25) hx hb (by decide) dX0_play_12 (by decide) (fun q => absurd q (by decide)) (fun _ => ?_)
      refine lv_aload_n hx hb dX0_play_15 rfl (lv_at hl 0 rfl) ?_
      refine lv_iload_n hx hb dX0_play_16 rfl (lv_at hl 1 rfl) ?_
      refine va_put (D := D) (ci := 0) (v := .int (nI (a.1 7))) (ty := .int) (C := RX0) (T := TX0) (N := 6) hx hb hts hinX0 tyX0 tyX0_ok nmX0 hown hK hP hD hS 0 rfl rfl 3 (by decide) (hts _ (List.mem_of_getElem? (i := 1) rfl)) (fun _ h9 => h9) rfl (by decide +kernel) rfl rfl (Nat.le_of_ble_eq_true rfl) dX0_play_17 (fun H locs hP hD hS => ?_)
      have hP : va_P D vwCl [(q 3, .inr (0, [.ref (q 2), .ref (q 31), .int (nI (a.1 11)), .int (nI (a.1 7)), .int (tT a), .int (nI (a.1 15))])), (q 31, .inl (cI, 100, .inl (a.2 5))), (q 2, .inr (2, [.ref (q 20), .ref (q 21), .int (nI (a.1 8)), .int (nI (a.1 14) - 1), .int (nI (a.1 13))])), (q 20, .inl (cZ, 300, .inl (a.2 2))), (q 21, .inl (cI, 300, .inl (a.2 4)))] H := hP
      have hD : va_D A [(q 3, .inr (0, [.ref (q 2), .ref (q 31), .int (nI (a.1 11)), .int (nI (a.1 7)), .int (tT a), .int (nI (a.1 15))])), (q 31, .inl (cI, 100, .inl (a.2 5))), (q 2, .inr (2, [.ref (q 20), .ref (q 21), .int (nI (a.1 8)), .int (nI (a.1 14) - 1), .int (nI (a.1 13))])), (q 20, .inl (cZ, 300, .inl (a.2 2))), (q 21, .inl (cI, 300, .inl (a.2 4)))] := hD
      refine lv_aload_n hx hb dX0_play_20 rfl (lv_at hl 0 rfl) ?_
      refine lv_iload_n hx hb dX0_play_21 rfl (lv_at hl 1 rfl) ?_
      refine va_put (D := D) (ci := 0) (v := .int (nI (a.1 7))) (ty := .int) (C := RX0) (T := TX0) (N := 6) hx hb hts hinX0 tyX0 tyX0_ok nmX0 hown hK hP hD hS 0 rfl rfl 4 (by decide) (hts _ (List.mem_of_getElem? (i := 2) rfl)) (fun _ h9 => h9) rfl (by decide +kernel) rfl rfl (Nat.le_of_ble_eq_true rfl) dX0_play_22 (fun H locs hP hD hS => ?_)
      have hP : va_P D vwCl [(q 3, .inr (0, [.ref (q 2), .ref (q 31), .int (nI (a.1 11)), .int (nI (a.1 7)), .int (nI (a.1 7)), .int (nI (a.1 15))])), (q 31, .inl (cI, 100, .inl (a.2 5))), (q 2, .inr (2, [.ref (q 20), .ref (q 21), .int (nI (a.1 8)), .int (nI (a.1 14) - 1), .int (nI (a.1 13))])), (q 20, .inl (cZ, 300, .inl (a.2 2))), (q 21, .inl (cI, 300, .inl (a.2 4)))] H := hP
      have hD : va_D A [(q 3, .inr (0, [.ref (q 2), .ref (q 31), .int (nI (a.1 11)), .int (nI (a.1 7)), .int (nI (a.1 7)), .int (nI (a.1 15))])), (q 31, .inl (cI, 100, .inl (a.2 5))), (q 2, .inr (2, [.ref (q 20), .ref (q 21), .int (nI (a.1 8)), .int (nI (a.1 14) - 1), .int (nI (a.1 13))])), (q 20, .inl (cZ, 300, .inl (a.2 2))), (q 21, .inl (cI, 300, .inl (a.2 4)))] := hD
      refine lv_aload_n hx hb dX0_play_25 rfl (lv_at hl 0 rfl) ?_
      refine va_get (D := D) (ci := 0) (v := .int (nI (a.1 7))) (C := RX0) (T := TX0) (N := 6) hx hb hts hinX0 hown hK hP 0 rfl rfl 4 (by decide) (hts _ (List.mem_of_getElem? (i := 2) rfl)) (fun _ h9 => h9) rfl dX0_play_26 ?_
      refine lv_iload_n hx hb dX0_play_29 rfl (lv_at hl 1 rfl) ?_
      refine k_icmp_ne (tgt := 38) hx hb (by omega) (by omega) dX0_play_30 (by decide) (fun c_30 => absurd c_30 (fun h => h rfl)) (fun c_30 => ?_)
      refine lv_aload_n hx hb dX0_play_33 rfl (lv_at hl 0 rfl) ?_
      refine lv_iload_n hx hb dX0_play_34 rfl (lv_at hl 1 rfl) ?_
      refine k_callVv (n := 1) (wr := []) (As := [.int (nI (a.1 7))]) (rest := []) hfix hN hK hP hD hS hA hl.1 (c_X0_giveTurn l D cI cZ q (a_begin a) (nI (a.1 7)) hIb (show ¬ 1 = 0 by decide) (show a.1 11 < 100 by omega)) gX0_play_X0_giveTurn rfl (by decide +kernel) rfl ⟨Nat.le_of_ble_eq_true rfl, Nat.le_of_ble_eq_true rfl⟩ [0, 1, 2, 3, 4] [] rfl rfl (by decide) (by decide) (by decide) 0 rfl rfl rfl (Nat.le_of_ble_eq_true rfl) ⟨Nat.zero_le _, Nat.zero_le _⟩ dX0_play_35 (fun u H locs hw_35 hP hD hS => ?_)
      have hP : va_P D vwCl [(q 3, .inr (0, [.ref (q 2), .ref (q 31), .int (nI ((a_turn (a_begin a)).1 11)), .int (bT (a_turn (a_begin a))), .int (tT (a_turn (a_begin a))), .int (nI ((a_turn (a_begin a)).1 15))])), (q 31, .inl (cI, 100, .inl ((a_turn (a_begin a)).2 5))), (q 2, .inr (2, [.ref (q 20), .ref (q 21), .int (nI ((a_turn (a_begin a)).1 8)), .int (nI ((a_turn (a_begin a)).1 14) - 1), .int (nI ((a_turn (a_begin a)).1 13))])), (q 20, .inl (cZ, 300, .inl ((a_turn (a_begin a)).2 2))), (q 21, .inl (cI, 300, .inl ((a_turn (a_begin a)).2 4)))] H := hP.sub [0, 1, 2, 3, 4] rfl
      have hD : va_D A [(q 3, .inr (0, [.ref (q 2), .ref (q 31), .int (nI ((a_turn (a_begin a)).1 11)), .int (bT (a_turn (a_begin a))), .int (tT (a_turn (a_begin a))), .int (nI ((a_turn (a_begin a)).1 15))])), (q 31, .inl (cI, 100, .inl ((a_turn (a_begin a)).2 5))), (q 2, .inr (2, [.ref (q 20), .ref (q 21), .int (nI ((a_turn (a_begin a)).1 8)), .int (nI ((a_turn (a_begin a)).1 14) - 1), .int (nI ((a_turn (a_begin a)).1 13))])), (q 20, .inl (cZ, 300, .inl ((a_turn (a_begin a)).2 2))), (q 21, .inl (cI, 300, .inl ((a_turn (a_begin a)).2 4)))] := hD.sub [0, 1, 2, 3, 4] (by decide) rfl
      exact k_vret hx hb hr hlk () trivial (by rw [show a_play a = a_turn (a_begin a) from by rw [a_play, if_pos h9, if_pos e_9]]; exact hP) (by rw [show a_play a = a_turn (a_begin a) from by rw [a_play, if_pos h9, if_pos e_9]]; exact hD) hS dX0_play_38
    · rw [if_neg e_9] at hw_9
      obtain rfl : r_9 = nI 0 := hw_9
      refine k_if_eq (tgt := 25) hx hb (by decide) dX0_play_12 (by decide) (fun _ => ?_) (fun q => absurd q (by decide))
      refine lv_aload_n hx hb dX0_play_25 rfl (lv_at hl 0 rfl) ?_
      refine va_get (D := D) (ci := 0) (v := .int (tT a)) (C := RX0) (T := TX0) (N := 6) hx hb hts hinX0 hown hK hP 0 rfl rfl 4 (by decide) (hts _ (List.mem_of_getElem? (i := 2) rfl)) (fun _ h9 => h9) rfl dX0_play_26 ?_
      refine lv_iload_n hx hb dX0_play_29 rfl (lv_at hl 1 rfl) ?_
      refine lv_icmp_ne (tgt := 38) hx hb dX0_play_30 (by decide) (fun c_30 => ?_) (fun c_30 => absurd c_30 (fun h => ((tT_t (by omega) (by omega)).mp h).1 h9))
      exact k_vret hx hb hr hlk () trivial (by rw [show a_play a = a from by rw [a_play, if_pos h9, if_neg e_9]]; exact hP) (by rw [show a_play a = a from by rw [a_play, if_pos h9, if_neg e_9]]; exact hD) hS dX0_play_38
set_option maxHeartbeats 4000000 in
set_option maxRecDepth 100000 in
theorem c_X0_countShowable (l : Launch) (D : va_G) (cI cZ : ClassId) (q : Nat → Nat) (a : AS) (b9 t9 : Int32) (i11 : a.1 11 ≤ 100) : kMi l yX0_countShowable wsX0_countShowable 3 64 D (TY cI cZ) [.ref (q 3)] [(q 3, .inr (0, [.ref (q 2), .ref (q 31), .int (nI (a.1 11)), .int b9, .int t9, .int (nI (a.1 15))])), (q 31, .inl (cI, 100, .inl (a.2 5))), (q 2, .inr (2, [.ref (q 20), .ref (q 21), .int (nI (a.1 8)), .int (nI (a.1 14) - 1), .int (nI (a.1 13))])), (q 20, .inl (cZ, 300, .inl (a.2 2))), (q 21, .inl (cI, 300, .inl (a.2 4)))] (fun (r : Int32) (_ : Unit) => r = nI (cldN (a.2 2) (a.1 11))) (fun (_ : Unit) => FWb cI q a b9 t9 ++ SWa cI cZ q a) := by
  intro sz
  refine k_in (Qc := fun A => va_Qi (fun (r : Int32) (_ : Unit) => r = nI (cldN (a.2 2) (a.1 11))) (kB D A (fun (_ : Unit) => FWb cI q a b9 t9 ++ SWa cI cZ q a)) A) (cc := cX0_countShowable) (maxL := 3) (ret := (some .int)) (by decide) rfl (Nat.le_of_ble_eq_true rfl) ?_
  intro p e s m below meth c A ls hfix hr hlk hN hP hK hD hA hS hl
  have hfix : CallFix p m c cX0_countShowable 3 s [.ref (q 3)].toArray wsX0_countShowable RX0 := hfix
  have hl : lv_has ls 3 [(0, .ref (q 3))] := hl
  obtain ⟨hx, hb, hml, hown, hts⟩ := id hfix
  have hinX0 : ∀ w ∈ wsX00, w ∈ wsX0_countShowable := fun _ h => List.mem_cons_of_mem _ (List.mem_append_left _ (List.mem_append_right _ h))
  have hP : va_P D vwCl [(q 3, .inr (0, [.ref (q 2), .ref (q 31), .int (nI (a.1 11)), .int b9, .int t9, .int (nI (a.1 15))])), (q 31, .inl (cI, 100, .inl (a.2 5))), (q 2, .inr (2, [.ref (q 20), .ref (q 21), .int (nI (a.1 8)), .int (nI (a.1 14) - 1), .int (nI (a.1 13))])), (q 20, .inl (cZ, 300, .inl (a.2 2))), (q 21, .inl (cI, 300, .inl (a.2 4)))] s.heap := hP
  have hD : va_D A [(q 3, .inr (0, [.ref (q 2), .ref (q 31), .int (nI (a.1 11)), .int b9, .int t9, .int (nI (a.1 15))])), (q 31, .inl (cI, 100, .inl (a.2 5))), (q 2, .inr (2, [.ref (q 20), .ref (q 21), .int (nI (a.1 8)), .int (nI (a.1 14) - 1), .int (nI (a.1 13))])), (q 20, .inl (cZ, 300, .inl (a.2 2))), (q 21, .inl (cI, 300, .inl (a.2 4)))] := hD
  have hS : ∃ (H : Heap) (locs : List Loc), H = s.heap ∧ locs = [] ∧ va_S A s.heap H locs := ⟨_, _, rfl, rfl, hS⟩
  obtain ⟨H, locs, hH, hlocs, hS⟩ := hS
  rw [← hH] at hP
  suffices hW9 : W p l e ({ frames := 3, cells := 0, slots := 0, locals := 64 } : Room) s m [.ref (q 3)].toArray below meth c H locs 0 0 (MQ below (va_Qi (fun (r : Int32) (_ : Unit) => r = nI (cldN (a.2 2) (a.1 11))) (kB D A (fun (_ : Unit) => FWb cI q a b9 t9 ++ SWa cI cZ q a)) A) [.ref (q 3)].toArray s 0 0 A) (F0 m 0 ls []) by rw [hH, hlocs] at hW9; exact hW9
  clear hH hlocs
  have at4 : ∀ (n9 : Nat) (k : Nat) (m9 : Nat) (hf9 : (a.1 11 - k) < n9) (h1 : k ≤ a.1 11) (hm : m9 = cldN (a.2 2) k) (H : Heap) (locs : List Loc) (ls : Array Slot) (hP : va_P D vwCl [(q 3, .inr (0, [.ref (q 2), .ref (q 31), .int (nI (a.1 11)), .int b9, .int t9, .int (nI (a.1 15))])), (q 31, .inl (cI, 100, .inl (a.2 5))), (q 2, .inr (2, [.ref (q 20), .ref (q 21), .int (nI (a.1 8)), .int (nI (a.1 14) - 1), .int (nI (a.1 13))])), (q 20, .inl (cZ, 300, .inl (a.2 2))), (q 21, .inl (cI, 300, .inl (a.2 4)))] H) (hD : va_D A [(q 3, .inr (0, [.ref (q 2), .ref (q 31), .int (nI (a.1 11)), .int b9, .int t9, .int (nI (a.1 15))])), (q 31, .inl (cI, 100, .inl (a.2 5))), (q 2, .inr (2, [.ref (q 20), .ref (q 21), .int (nI (a.1 8)), .int (nI (a.1 14) - 1), .int (nI (a.1 13))])), (q 20, .inl (cZ, 300, .inl (a.2 2))), (q 21, .inl (cI, 300, .inl (a.2 4)))]) (hS : va_S A s.heap H locs) (hl : lv_has ls 3 [(0, .ref (q 3)), (1, .int (nI m9)), (2, .int (nI k))]), W p l e ({ frames := 3, cells := 0, slots := 0, locals := 64 } : Room) s m [.ref (q 3)].toArray below meth c H locs 0 0 (MQ below (va_Qi (fun (r : Int32) (_ : Unit) => r = nI (cldN (a.2 2) (a.1 11))) (kB D A (fun (_ : Unit) => FWb cI q a b9 t9 ++ SWa cI cZ q a)) A) [.ref (q 3)].toArray s 0 0 A) (F0 m 4 ls []) := by
    intro n9
    induction n9 with
    | zero => intro k m9 hf9 h1 hm H locs ls hP hD hS hl; exact absurd hf9 (Nat.not_lt_zero _)
    | succ n9 ih9 =>
      intro k m9 hf9 h1 hm H locs ls hP hD hS hl
      refine lv_iload_n hx hb dX0_countShowable_4 rfl (lv_at hl 2 rfl) ?_
      refine lv_aload_n hx hb dX0_countShowable_5 rfl (lv_at hl 0 rfl) ?_
      refine va_get (D := D) (ci := 0) (v := .int (nI (a.1 11))) (C := RX0) (T := TX0) (N := 6) hx hb hts hinX0 hown hK hP 0 rfl rfl 2 (by decide) (hts _ (List.mem_of_getElem? (i := 1) rfl)) (fun _ h9 => h9) rfl dX0_countShowable_6 ?_
      refine k_icmp_ge (tgt := 54) hx hb (by omega) (by omega) dX0_countShowable_9 (by decide) (fun c_9 => ?_) (fun c_9 => ?_)
      · -- c_9 taken
        refine lv_iload_n hx hb dX0_countShowable_54 rfl (lv_at hl 1 rfl) ?_
        exact k_iret (v := nI m9) hx hb hr hlk rfl () (by rw [hm, show k = a.1 11 by omega]) hP hD hS dX0_countShowable_55
      · -- c_9 not taken
        refine lv_aload_n hx hb dX0_countShowable_12 rfl (lv_at hl 0 rfl) ?_
        refine va_get (D := D) (ci := 0) (v := .ref (q 2)) (C := RX0) (T := TX0) (N := 6) hx hb hts hinX0 hown hK hP 0 rfl rfl 0 (by decide) (hts _ (List.mem_of_getElem? (i := 2) rfl)) (fun _ h9 => h9) rfl dX0_countShowable_13 ?_
        refine lv_iload_n hx hb dX0_countShowable_16 rfl (lv_at hl 2 rfl) ?_
        refine k_callVi (n := 1) (wr := [(q 3, .inr (0, [.ref (q 2), .ref (q 31), .int (nI (a.1 11)), .int b9, .int t9, .int (nI (a.1 15))])), (q 31, .inl (cI, 100, .inl (a.2 5)))]) (As := [.int (nI k)]) (rest := []) hfix hN hK hP hD hS hA hl.1 (c_X2_holdsFrame l D cI cZ q a k (by omega)) gX0_countShowable_X2_holdsFrame rfl (by decide +kernel) rfl ⟨Nat.le_of_ble_eq_true rfl, Nat.le_of_ble_eq_true rfl⟩ [2, 3, 4] [0, 1] rfl rfl (by decide) (by decide) (by decide) 2 rfl rfl rfl (Nat.le_of_ble_eq_true rfl) ⟨Nat.zero_le _, Nat.zero_le _⟩ dX0_countShowable_17 (fun r_17 u H locs hw_17 hP hD hS => ?_)
        have hP : va_P D vwCl [(q 3, .inr (0, [.ref (q 2), .ref (q 31), .int (nI (a.1 11)), .int b9, .int t9, .int (nI (a.1 15))])), (q 31, .inl (cI, 100, .inl (a.2 5))), (q 2, .inr (2, [.ref (q 20), .ref (q 21), .int (nI (a.1 8)), .int (nI (a.1 14) - 1), .int (nI (a.1 13))])), (q 20, .inl (cZ, 300, .inl (a.2 2))), (q 21, .inl (cI, 300, .inl (a.2 4)))] H := hP.sub [0, 1, 2, 3, 4] rfl
        have hD : va_D A [(q 3, .inr (0, [.ref (q 2), .ref (q 31), .int (nI (a.1 11)), .int b9, .int t9, .int (nI (a.1 15))])), (q 31, .inl (cI, 100, .inl (a.2 5))), (q 2, .inr (2, [.ref (q 20), .ref (q 21), .int (nI (a.1 8)), .int (nI (a.1 14) - 1), .int (nI (a.1 13))])), (q 20, .inl (cZ, 300, .inl (a.2 2))), (q 21, .inl (cI, 300, .inl (a.2 4)))] := hD.sub [0, 1, 2, 3, 4] (by decide) rfl
        by_cases e_17 : whl (a.2 2) k
        · rw [if_pos e_17] at hw_17
          obtain rfl : r_17 = nI 1 := hw_17
          refine k_if_eq (tgt := 48) hx hb (by decide) dX0_countShowable_20 (by decide) (fun q => absurd q (by decide)) (fun _ => ?_)
          refine lv_aload_n hx hb dX0_countShowable_23 rfl (lv_at hl 0 rfl) ?_
          refine lv_iload_n hx hb dX0_countShowable_24 rfl (lv_at hl 2 rfl) ?_
          refine k_callSi (n := 1) (As := [.int (nI k)]) (rest := [.ref (q 3)]) hfix hN hK hP hD hS hA hl.1 (c_X0_needBefore l D cI cZ k (by omega)) (fun _ => rfl) gX0_countShowable_X0_needBefore rfl (by decide +kernel) rfl ⟨Nat.le_of_ble_eq_true rfl, Nat.le_of_ble_eq_true rfl⟩ [0, 1, 2, 3, 4] rfl (by decide) rfl (Nat.le_of_ble_eq_true rfl) ⟨Nat.zero_le _, Nat.zero_le _⟩ dX0_countShowable_25 (fun r_25 u H locs hw_25 hP hD hS => ?_)
          by_cases e_25 : k % 6 = 0
          · rw [if_pos e_25] at hw_25
            obtain rfl : r_25 = (-1) := hw_25
            refine k_callVi (n := 1) (wr := []) (As := [.int (-1)]) (rest := []) hfix hN hK hP hD hS hA hl.1 (c_X0_isAnchorShowable0 l D cI cZ q a b9 t9 ) gX0_countShowable_X0_isAnchorShowable rfl (by decide +kernel) rfl ⟨Nat.le_of_ble_eq_true rfl, Nat.le_of_ble_eq_true rfl⟩ [0, 1, 2, 3, 4] [] rfl rfl (by decide) (by decide) (by decide) 0 rfl rfl rfl (Nat.le_of_ble_eq_true rfl) ⟨Nat.zero_le _, Nat.zero_le _⟩ dX0_countShowable_28 (fun r_28 u H locs hw_28 hP hD hS => ?_)
            have hP : va_P D vwCl [(q 3, .inr (0, [.ref (q 2), .ref (q 31), .int (nI (a.1 11)), .int b9, .int t9, .int (nI (a.1 15))])), (q 31, .inl (cI, 100, .inl (a.2 5))), (q 2, .inr (2, [.ref (q 20), .ref (q 21), .int (nI (a.1 8)), .int (nI (a.1 14) - 1), .int (nI (a.1 13))])), (q 20, .inl (cZ, 300, .inl (a.2 2))), (q 21, .inl (cI, 300, .inl (a.2 4)))] H := hP.sub [0, 1, 2, 3, 4] rfl
            have hD : va_D A [(q 3, .inr (0, [.ref (q 2), .ref (q 31), .int (nI (a.1 11)), .int b9, .int t9, .int (nI (a.1 15))])), (q 31, .inl (cI, 100, .inl (a.2 5))), (q 2, .inr (2, [.ref (q 20), .ref (q 21), .int (nI (a.1 8)), .int (nI (a.1 14) - 1), .int (nI (a.1 13))])), (q 20, .inl (cZ, 300, .inl (a.2 2))), (q 21, .inl (cI, 300, .inl (a.2 4)))] := hD.sub [0, 1, 2, 3, 4] (by decide) rfl
            obtain rfl : r_28 = nI 1 := hw_28
            refine k_if_eq (tgt := 48) hx hb (by decide) dX0_countShowable_31 (by decide) (fun q => absurd q (by decide)) (fun _ => ?_)
            refine lv_aload_n hx hb dX0_countShowable_34 rfl (lv_at hl 0 rfl) ?_
            refine lv_iload_n hx hb dX0_countShowable_35 rfl (lv_at hl 2 rfl) ?_
            refine k_callSi (n := 1) (As := [.int (nI k)]) (rest := [.ref (q 3)]) hfix hN hK hP hD hS hA hl.1 (c_X0_needBehind l D cI cZ k (by omega)) (fun _ => rfl) gX0_countShowable_X0_needBehind rfl (by decide +kernel) rfl ⟨Nat.le_of_ble_eq_true rfl, Nat.le_of_ble_eq_true rfl⟩ [0, 1, 2, 3, 4] rfl (by decide) rfl (Nat.le_of_ble_eq_true rfl) ⟨Nat.zero_le _, Nat.zero_le _⟩ dX0_countShowable_36 (fun r_36 u H locs hw_36 hP hD hS => ?_)
            by_cases e_36 : k % 3 = 0
            · rw [if_pos e_36] at hw_36
              obtain rfl : r_36 = (-1) := hw_36
              refine k_callVi (n := 1) (wr := []) (As := [.int (-1)]) (rest := []) hfix hN hK hP hD hS hA hl.1 (c_X0_isAnchorShowable0 l D cI cZ q a b9 t9 ) gX0_countShowable_X0_isAnchorShowable rfl (by decide +kernel) rfl ⟨Nat.le_of_ble_eq_true rfl, Nat.le_of_ble_eq_true rfl⟩ [0, 1, 2, 3, 4] [] rfl rfl (by decide) (by decide) (by decide) 0 rfl rfl rfl (Nat.le_of_ble_eq_true rfl) ⟨Nat.zero_le _, Nat.zero_le _⟩ dX0_countShowable_39 (fun r_39 u H locs hw_39 hP hD hS => ?_)
              have hP : va_P D vwCl [(q 3, .inr (0, [.ref (q 2), .ref (q 31), .int (nI (a.1 11)), .int b9, .int t9, .int (nI (a.1 15))])), (q 31, .inl (cI, 100, .inl (a.2 5))), (q 2, .inr (2, [.ref (q 20), .ref (q 21), .int (nI (a.1 8)), .int (nI (a.1 14) - 1), .int (nI (a.1 13))])), (q 20, .inl (cZ, 300, .inl (a.2 2))), (q 21, .inl (cI, 300, .inl (a.2 4)))] H := hP.sub [0, 1, 2, 3, 4] rfl
              have hD : va_D A [(q 3, .inr (0, [.ref (q 2), .ref (q 31), .int (nI (a.1 11)), .int b9, .int t9, .int (nI (a.1 15))])), (q 31, .inl (cI, 100, .inl (a.2 5))), (q 2, .inr (2, [.ref (q 20), .ref (q 21), .int (nI (a.1 8)), .int (nI (a.1 14) - 1), .int (nI (a.1 13))])), (q 20, .inl (cZ, 300, .inl (a.2 2))), (q 21, .inl (cI, 300, .inl (a.2 4)))] := hD.sub [0, 1, 2, 3, 4] (by decide) rfl
              obtain rfl : r_39 = nI 1 := hw_39
              refine k_if_eq (tgt := 48) hx hb (by decide) dX0_countShowable_42 (by decide) (fun q => absurd q (by decide)) (fun _ => ?_)
              refine lv_iinc (v := nI (m9 + 1)) (lv' := [(1, .int (nI (m9 + 1))), (0, .ref (q 3)), (2, .int (nI k))]) hx hb dX0_countShowable_45 hl (k := 1) rfl (nI_add m9 1) (by decide) rfl (fun ls hl => ?_)
              refine lv_iinc (v := nI (k + 1)) (lv' := [(2, .int (nI (k + 1))), (1, .int (nI (m9 + 1))), (0, .ref (q 3))]) hx hb dX0_countShowable_48 hl (k := 2) rfl (nI_add k 1) (by decide) rfl (fun ls hl => ?_)
              refine lv_goto (tgt := 4) hx hb dX0_countShowable_51 (by decide) ?_
              exact ih9 (k + 1) (m9 + 1) (by omega) (by omega) (by rw [cldN, if_pos ⟨e_17, Or.inl e_25, Or.inl e_36⟩, hm]) H locs ls hP hD hS (lv_sub hl [2, 1, 0] rfl)
            · rw [if_neg e_36] at hw_36
              obtain rfl : r_36 = nI (beh k) := hw_36
              refine k_callVi (n := 1) (wr := []) (As := [.int (nI (beh k))]) (rest := []) hfix hN hK hP hD hS hA hl.1 (c_X0_isAnchorShowable l D cI cZ q a b9 t9 (beh k) (by first | omega | exact bef_lt (by omega) | exact beh_lt (by omega) (by omega))) gX0_countShowable_X0_isAnchorShowable rfl (by decide +kernel) rfl ⟨Nat.le_of_ble_eq_true rfl, Nat.le_of_ble_eq_true rfl⟩ [0, 1, 2, 3, 4] [] rfl rfl (by decide) (by decide) (by decide) 0 rfl rfl rfl (Nat.le_of_ble_eq_true rfl) ⟨Nat.zero_le _, Nat.zero_le _⟩ dX0_countShowable_39 (fun r_39 u H locs hw_39 hP hD hS => ?_)
              have hP : va_P D vwCl [(q 3, .inr (0, [.ref (q 2), .ref (q 31), .int (nI (a.1 11)), .int b9, .int t9, .int (nI (a.1 15))])), (q 31, .inl (cI, 100, .inl (a.2 5))), (q 2, .inr (2, [.ref (q 20), .ref (q 21), .int (nI (a.1 8)), .int (nI (a.1 14) - 1), .int (nI (a.1 13))])), (q 20, .inl (cZ, 300, .inl (a.2 2))), (q 21, .inl (cI, 300, .inl (a.2 4)))] H := hP.sub [0, 1, 2, 3, 4] rfl
              have hD : va_D A [(q 3, .inr (0, [.ref (q 2), .ref (q 31), .int (nI (a.1 11)), .int b9, .int t9, .int (nI (a.1 15))])), (q 31, .inl (cI, 100, .inl (a.2 5))), (q 2, .inr (2, [.ref (q 20), .ref (q 21), .int (nI (a.1 8)), .int (nI (a.1 14) - 1), .int (nI (a.1 13))])), (q 20, .inl (cZ, 300, .inl (a.2 2))), (q 21, .inl (cI, 300, .inl (a.2 4)))] := hD.sub [0, 1, 2, 3, 4] (by decide) rfl
              by_cases e_39 : cldA (a.2 2) (beh k)
              · rw [if_pos e_39] at hw_39
                obtain rfl : r_39 = nI 1 := hw_39
                refine k_if_eq (tgt := 48) hx hb (by decide) dX0_countShowable_42 (by decide) (fun q => absurd q (by decide)) (fun _ => ?_)
                refine lv_iinc (v := nI (m9 + 1)) (lv' := [(1, .int (nI (m9 + 1))), (0, .ref (q 3)), (2, .int (nI k))]) hx hb dX0_countShowable_45 hl (k := 1) rfl (nI_add m9 1) (by decide) rfl (fun ls hl => ?_)
                refine lv_iinc (v := nI (k + 1)) (lv' := [(2, .int (nI (k + 1))), (1, .int (nI (m9 + 1))), (0, .ref (q 3))]) hx hb dX0_countShowable_48 hl (k := 2) rfl (nI_add k 1) (by decide) rfl (fun ls hl => ?_)
                refine lv_goto (tgt := 4) hx hb dX0_countShowable_51 (by decide) ?_
                exact ih9 (k + 1) (m9 + 1) (by omega) (by omega) (by rw [cldN, if_pos ⟨e_17, Or.inl e_25, Or.inr e_39⟩, hm]) H locs ls hP hD hS (lv_sub hl [2, 1, 0] rfl)
              · rw [if_neg e_39] at hw_39
                obtain rfl : r_39 = nI 0 := hw_39
                refine k_if_eq (tgt := 48) hx hb (by decide) dX0_countShowable_42 (by decide) (fun _ => ?_) (fun q => absurd q (by decide))
                refine lv_iinc (v := nI (k + 1)) (lv' := [(2, .int (nI (k + 1))), (0, .ref (q 3)), (1, .int (nI m9))]) hx hb dX0_countShowable_48 hl (k := 2) rfl (nI_add k 1) (by decide) rfl (fun ls hl => ?_)
                refine lv_goto (tgt := 4) hx hb dX0_countShowable_51 (by decide) ?_
                exact ih9 (k + 1) m9 (by omega) (by omega) (by rw [cldN, if_neg (fun h => h.2.2.elim e_36 e_39), hm]) H locs ls hP hD hS (lv_sub hl [1, 2, 0] rfl)
          · rw [if_neg e_25] at hw_25
            obtain rfl : r_25 = nI (bef k) := hw_25
            refine k_callVi (n := 1) (wr := []) (As := [.int (nI (bef k))]) (rest := []) hfix hN hK hP hD hS hA hl.1 (c_X0_isAnchorShowable l D cI cZ q a b9 t9 (bef k) (by first | omega | exact bef_lt (by omega) | exact beh_lt (by omega) (by omega))) gX0_countShowable_X0_isAnchorShowable rfl (by decide +kernel) rfl ⟨Nat.le_of_ble_eq_true rfl, Nat.le_of_ble_eq_true rfl⟩ [0, 1, 2, 3, 4] [] rfl rfl (by decide) (by decide) (by decide) 0 rfl rfl rfl (Nat.le_of_ble_eq_true rfl) ⟨Nat.zero_le _, Nat.zero_le _⟩ dX0_countShowable_28 (fun r_28 u H locs hw_28 hP hD hS => ?_)
            have hP : va_P D vwCl [(q 3, .inr (0, [.ref (q 2), .ref (q 31), .int (nI (a.1 11)), .int b9, .int t9, .int (nI (a.1 15))])), (q 31, .inl (cI, 100, .inl (a.2 5))), (q 2, .inr (2, [.ref (q 20), .ref (q 21), .int (nI (a.1 8)), .int (nI (a.1 14) - 1), .int (nI (a.1 13))])), (q 20, .inl (cZ, 300, .inl (a.2 2))), (q 21, .inl (cI, 300, .inl (a.2 4)))] H := hP.sub [0, 1, 2, 3, 4] rfl
            have hD : va_D A [(q 3, .inr (0, [.ref (q 2), .ref (q 31), .int (nI (a.1 11)), .int b9, .int t9, .int (nI (a.1 15))])), (q 31, .inl (cI, 100, .inl (a.2 5))), (q 2, .inr (2, [.ref (q 20), .ref (q 21), .int (nI (a.1 8)), .int (nI (a.1 14) - 1), .int (nI (a.1 13))])), (q 20, .inl (cZ, 300, .inl (a.2 2))), (q 21, .inl (cI, 300, .inl (a.2 4)))] := hD.sub [0, 1, 2, 3, 4] (by decide) rfl
            by_cases e_28 : cldA (a.2 2) (bef k)
            · rw [if_pos e_28] at hw_28
              obtain rfl : r_28 = nI 1 := hw_28
              refine k_if_eq (tgt := 48) hx hb (by decide) dX0_countShowable_31 (by decide) (fun q => absurd q (by decide)) (fun _ => ?_)
              refine lv_aload_n hx hb dX0_countShowable_34 rfl (lv_at hl 0 rfl) ?_
              refine lv_iload_n hx hb dX0_countShowable_35 rfl (lv_at hl 2 rfl) ?_
              refine k_callSi (n := 1) (As := [.int (nI k)]) (rest := [.ref (q 3)]) hfix hN hK hP hD hS hA hl.1 (c_X0_needBehind l D cI cZ k (by omega)) (fun _ => rfl) gX0_countShowable_X0_needBehind rfl (by decide +kernel) rfl ⟨Nat.le_of_ble_eq_true rfl, Nat.le_of_ble_eq_true rfl⟩ [0, 1, 2, 3, 4] rfl (by decide) rfl (Nat.le_of_ble_eq_true rfl) ⟨Nat.zero_le _, Nat.zero_le _⟩ dX0_countShowable_36 (fun r_36 u H locs hw_36 hP hD hS => ?_)
              by_cases e_36 : k % 3 = 0
              · rw [if_pos e_36] at hw_36
                obtain rfl : r_36 = (-1) := hw_36
                refine k_callVi (n := 1) (wr := []) (As := [.int (-1)]) (rest := []) hfix hN hK hP hD hS hA hl.1 (c_X0_isAnchorShowable0 l D cI cZ q a b9 t9 ) gX0_countShowable_X0_isAnchorShowable rfl (by decide +kernel) rfl ⟨Nat.le_of_ble_eq_true rfl, Nat.le_of_ble_eq_true rfl⟩ [0, 1, 2, 3, 4] [] rfl rfl (by decide) (by decide) (by decide) 0 rfl rfl rfl (Nat.le_of_ble_eq_true rfl) ⟨Nat.zero_le _, Nat.zero_le _⟩ dX0_countShowable_39 (fun r_39 u H locs hw_39 hP hD hS => ?_)
                have hP : va_P D vwCl [(q 3, .inr (0, [.ref (q 2), .ref (q 31), .int (nI (a.1 11)), .int b9, .int t9, .int (nI (a.1 15))])), (q 31, .inl (cI, 100, .inl (a.2 5))), (q 2, .inr (2, [.ref (q 20), .ref (q 21), .int (nI (a.1 8)), .int (nI (a.1 14) - 1), .int (nI (a.1 13))])), (q 20, .inl (cZ, 300, .inl (a.2 2))), (q 21, .inl (cI, 300, .inl (a.2 4)))] H := hP.sub [0, 1, 2, 3, 4] rfl
                have hD : va_D A [(q 3, .inr (0, [.ref (q 2), .ref (q 31), .int (nI (a.1 11)), .int b9, .int t9, .int (nI (a.1 15))])), (q 31, .inl (cI, 100, .inl (a.2 5))), (q 2, .inr (2, [.ref (q 20), .ref (q 21), .int (nI (a.1 8)), .int (nI (a.1 14) - 1), .int (nI (a.1 13))])), (q 20, .inl (cZ, 300, .inl (a.2 2))), (q 21, .inl (cI, 300, .inl (a.2 4)))] := hD.sub [0, 1, 2, 3, 4] (by decide) rfl
                obtain rfl : r_39 = nI 1 := hw_39
                refine k_if_eq (tgt := 48) hx hb (by decide) dX0_countShowable_42 (by decide) (fun q => absurd q (by decide)) (fun _ => ?_)
                refine lv_iinc (v := nI (m9 + 1)) (lv' := [(1, .int (nI (m9 + 1))), (0, .ref (q 3)), (2, .int (nI k))]) hx hb dX0_countShowable_45 hl (k := 1) rfl (nI_add m9 1) (by decide) rfl (fun ls hl => ?_)
                refine lv_iinc (v := nI (k + 1)) (lv' := [(2, .int (nI (k + 1))), (1, .int (nI (m9 + 1))), (0, .ref (q 3))]) hx hb dX0_countShowable_48 hl (k := 2) rfl (nI_add k 1) (by decide) rfl (fun ls hl => ?_)
                refine lv_goto (tgt := 4) hx hb dX0_countShowable_51 (by decide) ?_
                exact ih9 (k + 1) (m9 + 1) (by omega) (by omega) (by rw [cldN, if_pos ⟨e_17, Or.inr e_28, Or.inl e_36⟩, hm]) H locs ls hP hD hS (lv_sub hl [2, 1, 0] rfl)
              · rw [if_neg e_36] at hw_36
                obtain rfl : r_36 = nI (beh k) := hw_36
                refine k_callVi (n := 1) (wr := []) (As := [.int (nI (beh k))]) (rest := []) hfix hN hK hP hD hS hA hl.1 (c_X0_isAnchorShowable l D cI cZ q a b9 t9 (beh k) (by first | omega | exact bef_lt (by omega) | exact beh_lt (by omega) (by omega))) gX0_countShowable_X0_isAnchorShowable rfl (by decide +kernel) rfl ⟨Nat.le_of_ble_eq_true rfl, Nat.le_of_ble_eq_true rfl⟩ [0, 1, 2, 3, 4] [] rfl rfl (by decide) (by decide) (by decide) 0 rfl rfl rfl (Nat.le_of_ble_eq_true rfl) ⟨Nat.zero_le _, Nat.zero_le _⟩ dX0_countShowable_39 (fun r_39 u H locs hw_39 hP hD hS => ?_)
                have hP : va_P D vwCl [(q 3, .inr (0, [.ref (q 2), .ref (q 31), .int (nI (a.1 11)), .int b9, .int t9, .int (nI (a.1 15))])), (q 31, .inl (cI, 100, .inl (a.2 5))), (q 2, .inr (2, [.ref (q 20), .ref (q 21), .int (nI (a.1 8)), .int (nI (a.1 14) - 1), .int (nI (a.1 13))])), (q 20, .inl (cZ, 300, .inl (a.2 2))), (q 21, .inl (cI, 300, .inl (a.2 4)))] H := hP.sub [0, 1, 2, 3, 4] rfl
                have hD : va_D A [(q 3, .inr (0, [.ref (q 2), .ref (q 31), .int (nI (a.1 11)), .int b9, .int t9, .int (nI (a.1 15))])), (q 31, .inl (cI, 100, .inl (a.2 5))), (q 2, .inr (2, [.ref (q 20), .ref (q 21), .int (nI (a.1 8)), .int (nI (a.1 14) - 1), .int (nI (a.1 13))])), (q 20, .inl (cZ, 300, .inl (a.2 2))), (q 21, .inl (cI, 300, .inl (a.2 4)))] := hD.sub [0, 1, 2, 3, 4] (by decide) rfl
                by_cases e_39 : cldA (a.2 2) (beh k)
                · rw [if_pos e_39] at hw_39
                  obtain rfl : r_39 = nI 1 := hw_39
                  refine k_if_eq (tgt := 48) hx hb (by decide) dX0_countShowable_42 (by decide) (fun q => absurd q (by decide)) (fun _ => ?_)
                  refine lv_iinc (v := nI (m9 + 1)) (lv' := [(1, .int (nI (m9 + 1))), (0, .ref (q 3)), (2, .int (nI k))]) hx hb dX0_countShowable_45 hl (k := 1) rfl (nI_add m9 1) (by decide) rfl (fun ls hl => ?_)
                  refine lv_iinc (v := nI (k + 1)) (lv' := [(2, .int (nI (k + 1))), (1, .int (nI (m9 + 1))), (0, .ref (q 3))]) hx hb dX0_countShowable_48 hl (k := 2) rfl (nI_add k 1) (by decide) rfl (fun ls hl => ?_)
                  refine lv_goto (tgt := 4) hx hb dX0_countShowable_51 (by decide) ?_
                  exact ih9 (k + 1) (m9 + 1) (by omega) (by omega) (by rw [cldN, if_pos ⟨e_17, Or.inr e_28, Or.inr e_39⟩, hm]) H locs ls hP hD hS (lv_sub hl [2, 1, 0] rfl)
                · rw [if_neg e_39] at hw_39
                  obtain rfl : r_39 = nI 0 := hw_39
                  refine k_if_eq (tgt := 48) hx hb (by decide) dX0_countShowable_42 (by decide) (fun _ => ?_) (fun q => absurd q (by decide))
                  refine lv_iinc (v := nI (k + 1)) (lv' := [(2, .int (nI (k + 1))), (0, .ref (q 3)), (1, .int (nI m9))]) hx hb dX0_countShowable_48 hl (k := 2) rfl (nI_add k 1) (by decide) rfl (fun ls hl => ?_)
                  refine lv_goto (tgt := 4) hx hb dX0_countShowable_51 (by decide) ?_
                  exact ih9 (k + 1) m9 (by omega) (by omega) (by rw [cldN, if_neg (fun h => h.2.2.elim e_36 e_39), hm]) H locs ls hP hD hS (lv_sub hl [1, 2, 0] rfl)
            · rw [if_neg e_28] at hw_28
              obtain rfl : r_28 = nI 0 := hw_28
              refine k_if_eq (tgt := 48) hx hb (by decide) dX0_countShowable_31 (by decide) (fun _ => ?_) (fun q => absurd q (by decide))
              refine lv_iinc (v := nI (k + 1)) (lv' := [(2, .int (nI (k + 1))), (0, .ref (q 3)), (1, .int (nI m9))]) hx hb dX0_countShowable_48 hl (k := 2) rfl (nI_add k 1) (by decide) rfl (fun ls hl => ?_)
              refine lv_goto (tgt := 4) hx hb dX0_countShowable_51 (by decide) ?_
              exact ih9 (k + 1) m9 (by omega) (by omega) (by rw [cldN, if_neg (fun h => h.2.1.elim e_25 e_28), hm]) H locs ls hP hD hS (lv_sub hl [1, 2, 0] rfl)
        · rw [if_neg e_17] at hw_17
          obtain rfl : r_17 = nI 0 := hw_17
          refine k_if_eq (tgt := 48) hx hb (by decide) dX0_countShowable_20 (by decide) (fun _ => ?_) (fun q => absurd q (by decide))
          refine lv_iinc (v := nI (k + 1)) (lv' := [(2, .int (nI (k + 1))), (0, .ref (q 3)), (1, .int (nI m9))]) hx hb dX0_countShowable_48 hl (k := 2) rfl (nI_add k 1) (by decide) rfl (fun ls hl => ?_)
          refine lv_goto (tgt := 4) hx hb dX0_countShowable_51 (by decide) ?_
          exact ih9 (k + 1) m9 (by omega) (by omega) (by rw [cldN, if_neg (fun h => e_17 h.1), hm]) H locs ls hP hD hS (lv_sub hl [1, 2, 0] rfl)
  refine lv_iconst (v := nI 0) hx hb dX0_countShowable_0 (by decide) ?_
  refine lv_istore_n (lv' := [(1, .int (nI 0)), (0, .ref (q 3))]) hx hb dX0_countShowable_1 rfl hl (by decide) rfl (fun ls hl => ?_)
  refine lv_iconst (v := nI 0) hx hb dX0_countShowable_2 (by decide) ?_
  refine lv_istore_n (lv' := [(2, .int (nI 0)), (1, .int (nI 0)), (0, .ref (q 3))]) hx hb dX0_countShowable_3 rfl hl (by decide) rfl (fun ls hl => ?_)
  exact at4 _ 0 0 (Nat.lt_succ_self _) (Nat.zero_le _) rfl H locs ls hP hD hS (lv_sub hl [2, 1, 0] rfl)
set_option maxHeartbeats 4000000 in
set_option maxRecDepth 100000 in
theorem c_X0_delay (l : Launch) (D : va_G) (cI cZ : ClassId) (q : Nat → Nat) (a : AS) (hI : AI a) : kMi l yX0_delay wsX0_delay 0 0 D (TY cI cZ) [.ref (q 3)] [(q 3, .inr (0, [.ref (q 2), .ref (q 31), .int (nI (a.1 11)), .int (bT a), .int (tT a), .int (nI (a.1 15))])), (q 31, .inl (cI, 100, .inl (a.2 5)))] (fun (r : Int32) (_ : Unit) => r = (if a.1 9 = 0 ∨ 100 ≤ a.1 11 then nI 0 else nI (a.1 12) - nI (a.1 10) - nI (10 * a.1 11))) (fun (_ : Unit) => FWa cI q a) := by
  obtain ⟨⟨i0, i4, i5, i7, i9, i10, i11, i12⟩, ⟨i1, i2, i3⟩, ⟨i8, i13, i14⟩, iQ, iH0, iH1, iW0, iW1, iN⟩ := id hI
  intro sz
  refine k_in (Qc := fun A => va_Qi (fun (r : Int32) (_ : Unit) => r = (if a.1 9 = 0 ∨ 100 ≤ a.1 11 then nI 0 else nI (a.1 12) - nI (a.1 10) - nI (10 * a.1 11))) (kB D A (fun (_ : Unit) => FWa cI q a)) A) (cc := cX0_delay) (maxL := 1) (ret := (some .int)) (by decide) rfl (Nat.le_of_ble_eq_true rfl) ?_
  intro p e s m below meth c A ls hfix hr hlk hN hP hK hD hA hS hl
  have hfix : CallFix p m c cX0_delay 1 s [.ref (q 3)].toArray wsX0_delay RX0 := hfix
  have hl : lv_has ls 1 [(0, .ref (q 3))] := hl
  obtain ⟨hx, hb, hml, hown, hts⟩ := id hfix
  have hinX0 : ∀ w ∈ wsX00, w ∈ wsX0_delay := fun _ h => List.mem_cons_of_mem _ (List.mem_append_right _ h)
  have hP : va_P D vwCl [(q 3, .inr (0, [.ref (q 2), .ref (q 31), .int (nI (a.1 11)), .int (bT a), .int (tT a), .int (nI (a.1 15))])), (q 31, .inl (cI, 100, .inl (a.2 5)))] s.heap := hP
  have hD : va_D A [(q 3, .inr (0, [.ref (q 2), .ref (q 31), .int (nI (a.1 11)), .int (bT a), .int (tT a), .int (nI (a.1 15))])), (q 31, .inl (cI, 100, .inl (a.2 5)))] := hD
  have hS : ∃ (H : Heap) (locs : List Loc), H = s.heap ∧ locs = [] ∧ va_S A s.heap H locs := ⟨_, _, rfl, rfl, hS⟩
  obtain ⟨H, locs, hH, hlocs, hS⟩ := hS
  rw [← hH] at hP
  suffices hW9 : W p l e ({ frames := 0, cells := 0, slots := 0, locals := 0 } : Room) s m [.ref (q 3)].toArray below meth c H locs 0 0 (MQ below (va_Qi (fun (r : Int32) (_ : Unit) => r = (if a.1 9 = 0 ∨ 100 ≤ a.1 11 then nI 0 else nI (a.1 12) - nI (a.1 10) - nI (10 * a.1 11))) (kB D A (fun (_ : Unit) => FWa cI q a)) A) [.ref (q 3)].toArray s 0 0 A) (F0 m 0 ls []) by rw [hH, hlocs] at hW9; exact hW9
  clear hH hlocs
  refine lv_aload_n hx hb dX0_delay_0 rfl (lv_at hl 0 rfl) ?_
  refine va_get (D := D) (ci := 0) (v := .int (tT a)) (C := RX0) (T := TX0) (N := 6) hx hb hts hinX0 hown hK hP 0 rfl rfl 4 (by decide) (hts _ (List.mem_of_getElem? (i := 1) rfl)) (fun _ h9 => h9) rfl dX0_delay_1 ?_
  refine lv_iconst (v := (-1)) hx hb dX0_delay_4 (by decide) ?_
  refine lv_icmp_ne (tgt := 12) hx hb dX0_delay_5 (by decide) (fun c_5 => ?_) (fun c_5 => ?_)
  · -- c_5 taken
    refine lv_aload_n hx hb dX0_delay_12 rfl (lv_at hl 0 rfl) ?_
    refine va_get (D := D) (ci := 0) (v := .int (tT a)) (C := RX0) (T := TX0) (N := 6) hx hb hts hinX0 hown hK hP 0 rfl rfl 4 (by decide) (hts _ (List.mem_of_getElem? (i := 1) rfl)) (fun _ h9 => h9) rfl dX0_delay_13 ?_
    refine lv_aload_n hx hb dX0_delay_16 rfl (lv_at hl 0 rfl) ?_
    refine va_get (D := D) (ci := 0) (v := .int (bT a)) (C := RX0) (T := TX0) (N := 6) hx hb hts hinX0 hown hK hP 0 rfl rfl 3 (by decide) (hts _ (List.mem_of_getElem? (i := 2) rfl)) (fun _ h9 => h9) rfl dX0_delay_17 ?_
    refine lv_isub hx hb dX0_delay_20 ?_
    refine lv_bipush (v := nI 10) hx hb dX0_delay_21 (by decide) ?_
    refine lv_aload_n hx hb dX0_delay_23 rfl (lv_at hl 0 rfl) ?_
    refine va_get (D := D) (ci := 0) (v := .int (nI (a.1 11))) (C := RX0) (T := TX0) (N := 6) hx hb hts hinX0 hown hK hP 0 rfl rfl 2 (by decide) (hts _ (List.mem_of_getElem? (i := 3) rfl)) (fun _ h9 => h9) rfl dX0_delay_24 ?_
    refine k_imul hx hb dX0_delay_27 ?_
    refine lv_isub hx hb dX0_delay_28 ?_
    exact k_iret (v := (((tT a) - (bT a)) - nI (10 * (a.1 11)))) hx hb hr hlk rfl () (by have h := fun z => c_5 ((tT_m1 (by omega)).mpr z); rw [if_neg h, tT_n h, bT_n (fun z => h (Or.inl z))]) hP hD hS dX0_delay_29
  · -- c_5 not taken
    refine lv_iconst (v := nI 0) hx hb dX0_delay_8 (by decide) ?_
    refine lv_goto (tgt := 29) hx hb dX0_delay_9 (by decide) ?_
    exact k_iret (v := nI 0) hx hb hr hlk rfl () ((if_pos ((tT_m1 (by omega)).mp c_5)).symm) hP hD hS dX0_delay_29
