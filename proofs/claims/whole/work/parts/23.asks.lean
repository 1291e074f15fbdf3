/-! the check: what is asked -/
set_option maxHeartbeats 4000000 in
set_option maxRecDepth 100000 in
theorem c_X4_tick (l : Launch) (D : va_G) (cI cZ : ClassId) (q : Nat → Nat) (a : AS) (hd th : Nat) (rg cm co : Nat → Int32) : kMi l yX4_tick wsX4_tick 0 0 D (TY cI cZ) [.ref (q 50)] [(q 50, .inr (4, [.int (nI (a.1 0)), .int (nI (a.1 1)), .int (nI (a.1 2)), .int (nI (a.1 3)), .ref (q 54), .ref (q 55), .int (nI hd), .int (nI (a.1 4)), .int (nI (a.1 5)), .int (nI (a.1 6)), .int (nI (a.1 7)), .ref (q 61), .ref (q 62), .ref (q 63), .int (nI (a.1 8)), .ref (q 65), .ref (q 66), .int (nI (a.1 9)), .int (nI (a.1 10)), .int (nI (a.1 11)), .int (nI (a.1 12)), .int (nI th)])), (q 54, .inl (cI, 32, .inl rg)), (q 55, .inl (cI, 32, .inl cm)), (q 61, .inl (cZ, 300, .inl (a.2 2))), (q 62, .inl (cZ, 300, .inl (a.2 3))), (q 63, .inl (cI, 300, .inl (a.2 4))), (q 65, .inl (cI, 100, .inl (a.2 5))), (q 66, .inl (cZ, 100, .inl co))] (fun (r : Int32) (_ : Unit) => r = nI (a.1 7)) (fun (_ : Unit) => MW cI cZ q a hd rg cm 0 co) := by
  intro sz
  refine k_in (Qc := fun A => va_Qi (fun (r : Int32) (_ : Unit) => r = nI (a.1 7)) (kB D A (fun (_ : Unit) => MW cI cZ q a hd rg cm 0 co)) A) (cc := cX4_tick) (maxL := 1) (ret := (some .int)) (by decide) rfl (Nat.le_of_ble_eq_true rfl) ?_
  intro p e s m below meth c A ls hfix hr hlk hN hP hK hD hA hS hl
  have hfix : CallFix p m c cX4_tick 1 s [.ref (q 50)].toArray wsX4_tick RX4 := hfix
  have hl : lv_has ls 1 [(0, .ref (q 50))] := hl
  obtain ⟨hx, hb, hml, hown, hts⟩ := id hfix
  have hinX4 : ∀ w ∈ wsX40, w ∈ wsX4_tick := fun _ h => List.mem_cons_of_mem _ (List.mem_append_right _ h)
  have hP : va_P D vwCl [(q 50, .inr (4, [.int (nI (a.1 0)), .int (nI (a.1 1)), .int (nI (a.1 2)), .int (nI (a.1 3)), .ref (q 54), .ref (q 55), .int (nI hd), .int (nI (a.1 4)), .int (nI (a.1 5)), .int (nI (a.1 6)), .int (nI (a.1 7)), .ref (q 61), .ref (q 62), .ref (q 63), .int (nI (a.1 8)), .ref (q 65), .ref (q 66), .int (nI (a.1 9)), .int (nI (a.1 10)), .int (nI (a.1 11)), .int (nI (a.1 12)), .int (nI th)])), (q 54, .inl (cI, 32, .inl rg)), (q 55, .inl (cI, 32, .inl cm)), (q 61, .inl (cZ, 300, .inl (a.2 2))), (q 62, .inl (cZ, 300, .inl (a.2 3))), (q 63, .inl (cI, 300, .inl (a.2 4))), (q 65, .inl (cI, 100, .inl (a.2 5))), (q 66, .inl (cZ, 100, .inl co))] s.heap := hP
  have hD : va_D A [(q 50, .inr (4, [.int (nI (a.1 0)), .int (nI (a.1 1)), .int (nI (a.1 2)), .int (nI (a.1 3)), .ref (q 54), .ref (q 55), .int (nI hd), .int (nI (a.1 4)), .int (nI (a.1 5)), .int (nI (a.1 6)), .int (nI (a.1 7)), .ref (q 61), .ref (q 62), .ref (q 63), .int (nI (a.1 8)), .ref (q 65), .ref (q 66), .int (nI (a.1 9)), .int (nI (a.1 10)), .int (nI (a.1 11)), .int (nI (a.1 12)), .int (nI th)])), (q 54, .inl (cI, 32, .inl rg)), (q 55, .inl (cI, 32, .inl cm)), (q 61, .inl (cZ, 300, .inl (a.2 2))), (q 62, .inl (cZ, 300, .inl (a.2 3))), (q 63, .inl (cI, 300, .inl (a.2 4))), (q 65, .inl (cI, 100, .inl (a.2 5))), (q 66, .inl (cZ, 100, .inl co))] := hD
  have hS : ∃ (H : Heap) (locs : List Loc), H = s.heap ∧ locs = [] ∧ va_S A s.heap H locs := ⟨_, _, rfl, rfl, hS⟩
  obtain ⟨H, locs, hH, hlocs, hS⟩ := hS
  rw [← hH] at hP
  suffices hW9 : W p l e ({ frames := 0, cells := 0, slots := 0, locals := 0 } : Room) s m [.ref (q 50)].toArray below meth c H locs 0 0 (MQ below (va_Qi (fun (r : Int32) (_ : Unit) => r = nI (a.1 7)) (kB D A (fun (_ : Unit) => MW cI cZ q a hd rg cm 0 co)) A) [.ref (q 50)].toArray s 0 0 A) (F0 m 0 ls []) by rw [hH, hlocs] at hW9; exact hW9
  clear hH hlocs
  refine lv_aload_n hx hb dX4_tick_0 rfl (lv_at hl 0 rfl) ?_
  refine lv_iconst (v := nI 0) hx hb dX4_tick_1 (by decide) ?_
  refine va_put (D := D) (ci := 4) (v := .int (nI 0)) (ty := .int) (C := RX4) (T := TX4) (N := 22) hx hb hts hinX4 tyX4 tyX4_ok nmX4 hown hK hP hD hS 0 rfl rfl 21 (by decide) (hts _ (List.mem_of_getElem? (i := 1) rfl)) (fun _ h9 => h9) rfl (by decide +kernel) rfl rfl (Nat.le_of_ble_eq_true rfl) dX4_tick_2 (fun H locs hP hD hS => ?_)
  have hP : va_P D vwCl [(q 50, .inr (4, [.int (nI (a.1 0)), .int (nI (a.1 1)), .int (nI (a.1 2)), .int (nI (a.1 3)), .ref (q 54), .ref (q 55), .int (nI hd), .int (nI (a.1 4)), .int (nI (a.1 5)), .int (nI (a.1 6)), .int (nI (a.1 7)), .ref (q 61), .ref (q 62), .ref (q 63), .int (nI (a.1 8)), .ref (q 65), .ref (q 66), .int (nI (a.1 9)), .int (nI (a.1 10)), .int (nI (a.1 11)), .int (nI (a.1 12)), .int (nI 0)])), (q 54, .inl (cI, 32, .inl rg)), (q 55, .inl (cI, 32, .inl cm)), (q 61, .inl (cZ, 300, .inl (a.2 2))), (q 62, .inl (cZ, 300, .inl (a.2 3))), (q 63, .inl (cI, 300, .inl (a.2 4))), (q 65, .inl (cI, 100, .inl (a.2 5))), (q 66, .inl (cZ, 100, .inl co))] H := hP
  have hD : va_D A [(q 50, .inr (4, [.int (nI (a.1 0)), .int (nI (a.1 1)), .int (nI (a.1 2)), .int (nI (a.1 3)), .ref (q 54), .ref (q 55), .int (nI hd), .int (nI (a.1 4)), .int (nI (a.1 5)), .int (nI (a.1 6)), .int (nI (a.1 7)), .ref (q 61), .ref (q 62), .ref (q 63), .int (nI (a.1 8)), .ref (q 65), .ref (q 66), .int (nI (a.1 9)), .int (nI (a.1 10)), .int (nI (a.1 11)), .int (nI (a.1 12)), .int (nI 0)])), (q 54, .inl (cI, 32, .inl rg)), (q 55, .inl (cI, 32, .inl cm)), (q 61, .inl (cZ, 300, .inl (a.2 2))), (q 62, .inl (cZ, 300, .inl (a.2 3))), (q 63, .inl (cI, 300, .inl (a.2 4))), (q 65, .inl (cI, 100, .inl (a.2 5))), (q 66, .inl (cZ, 100, .inl co))] := hD
  refine lv_aload_n hx hb dX4_tick_5 rfl (lv_at hl 0 rfl) ?_
  refine va_get (D := D) (ci := 4) (v := .int (nI (a.1 7))) (C := RX4) (T := TX4) (N := 22) hx hb hts hinX4 hown hK hP 0 rfl rfl 10 (by decide) (hts _ (List.mem_of_getElem? (i := 2) rfl)) (fun _ h9 => h9) rfl dX4_tick_6 ?_
  exact k_iret (v := nI (a.1 7)) hx hb hr hlk rfl () rfl hP hD hS dX4_tick_9
set_option maxHeartbeats 4000000 in
set_option maxRecDepth 100000 in
theorem c_X4_waiting (l : Launch) (D : va_G) (cI cZ : ClassId) (q : Nat → Nat) (a : AS) (hd th : Nat) (rg cm co : Nat → Int32) : kMi l yX4_waiting wsX4_waiting 0 0 D (TY cI cZ) [.ref (q 50)] [(q 50, .inr (4, [.int (nI (a.1 0)), .int (nI (a.1 1)), .int (nI (a.1 2)), .int (nI (a.1 3)), .ref (q 54), .ref (q 55), .int (nI hd), .int (nI (a.1 4)), .int (nI (a.1 5)), .int (nI (a.1 6)), .int (nI (a.1 7)), .ref (q 61), .ref (q 62), .ref (q 63), .int (nI (a.1 8)), .ref (q 65), .ref (q 66), .int (nI (a.1 9)), .int (nI (a.1 10)), .int (nI (a.1 11)), .int (nI (a.1 12)), .int (nI th)])), (q 54, .inl (cI, 32, .inl rg)), (q 55, .inl (cI, 32, .inl cm)), (q 61, .inl (cZ, 300, .inl (a.2 2))), (q 62, .inl (cZ, 300, .inl (a.2 3))), (q 63, .inl (cI, 300, .inl (a.2 4))), (q 65, .inl (cI, 100, .inl (a.2 5))), (q 66, .inl (cZ, 100, .inl co))] (fun (r : Int32) (_ : Unit) => r = nI (a.1 4)) (fun (_ : Unit) => MW cI cZ q a hd rg cm 0 co) := by
  intro sz
  refine k_in (Qc := fun A => va_Qi (fun (r : Int32) (_ : Unit) => r = nI (a.1 4)) (kB D A (fun (_ : Unit) => MW cI cZ q a hd rg cm 0 co)) A) (cc := cX4_waiting) (maxL := 1) (ret := (some .int)) (by decide) rfl (Nat.le_of_ble_eq_true rfl) ?_
  intro p e s m below meth c A ls hfix hr hlk hN hP hK hD hA hS hl
  have hfix : CallFix p m c cX4_waiting 1 s [.ref (q 50)].toArray wsX4_waiting RX4 := hfix
  have hl : lv_has ls 1 [(0, .ref (q 50))] := hl
  obtain ⟨hx, hb, hml, hown, hts⟩ := id hfix
  have hinX4 : ∀ w ∈ wsX40, w ∈ wsX4_waiting := fun _ h => List.mem_cons_of_mem _ (List.mem_append_right _ h)
  have hP : va_P D vwCl [(q 50, .inr (4, [.int (nI (a.1 0)), .int (nI (a.1 1)), .int (nI (a.1 2)), .int (nI (a.1 3)), .ref (q 54), .ref (q 55), .int (nI hd), .int (nI (a.1 4)), .int (nI (a.1 5)), .int (nI (a.1 6)), .int (nI (a.1 7)), .ref (q 61), .ref (q 62), .ref (q 63), .int (nI (a.1 8)), .ref (q 65), .ref (q 66), .int (nI (a.1 9)), .int (nI (a.1 10)), .int (nI (a.1 11)), .int (nI (a.1 12)), .int (nI th)])), (q 54, .inl (cI, 32, .inl rg)), (q 55, .inl (cI, 32, .inl cm)), (q 61, .inl (cZ, 300, .inl (a.2 2))), (q 62, .inl (cZ, 300, .inl (a.2 3))), (q 63, .inl (cI, 300, .inl (a.2 4))), (q 65, .inl (cI, 100, .inl (a.2 5))), (q 66, .inl (cZ, 100, .inl co))] s.heap := hP
  have hD : va_D A [(q 50, .inr (4, [.int (nI (a.1 0)), .int (nI (a.1 1)), .int (nI (a.1 2)), .int (nI (a.1 3)), .ref (q 54), .ref (q 55), .int (nI hd), .int (nI (a.1 4)), .int (nI (a.1 5)), .int (nI (a.1 6)), .int (nI (a.1 7)), .ref (q 61), .ref (q 62), .ref (q 63), .int (nI (a.1 8)), .ref (q 65), .ref (q 66), .int (nI (a.1 9)), .int (nI (a.1 10)), .int (nI (a.1 11)), .int (nI (a.1 12)), .int (nI th)])), (q 54, .inl (cI, 32, .inl rg)), (q 55, .inl (cI, 32, .inl cm)), (q 61, .inl (cZ, 300, .inl (a.2 2))), (q 62, .inl (cZ, 300, .inl (a.2 3))), (q 63, .inl (cI, 300, .inl (a.2 4))), (q 65, .inl (cI, 100, .inl (a.2 5))), (q 66, .inl (cZ, 100, .inl co))] := hD
  have hS : ∃ (H : Heap) (locs : List Loc), H = s.heap ∧ locs = [] ∧ va_S A s.heap H locs := ⟨_, _, rfl, rfl, hS⟩
  obtain ⟨H, locs, hH, hlocs, hS⟩ := hS
  rw [← hH] at hP
  suffices hW9 : W p l e ({ frames := 0, cells := 0, slots := 0, locals := 0 } : Room) s m [.ref (q 50)].toArray below meth c H locs 0 0 (MQ below (va_Qi (fun (r : Int32) (_ : Unit) => r = nI (a.1 4)) (kB D A (fun (_ : Unit) => MW cI cZ q a hd rg cm 0 co)) A) [.ref (q 50)].toArray s 0 0 A) (F0 m 0 ls []) by rw [hH, hlocs] at hW9; exact hW9
  clear hH hlocs
  refine lv_aload_n hx hb dX4_waiting_0 rfl (lv_at hl 0 rfl) ?_
  refine lv_iconst (v := nI 0) hx hb dX4_waiting_1 (by decide) ?_
  refine va_put (D := D) (ci := 4) (v := .int (nI 0)) (ty := .int) (C := RX4) (T := TX4) (N := 22) hx hb hts hinX4 tyX4 tyX4_ok nmX4 hown hK hP hD hS 0 rfl rfl 21 (by decide) (hts _ (List.mem_of_getElem? (i := 1) rfl)) (fun _ h9 => h9) rfl (by decide +kernel) rfl rfl (Nat.le_of_ble_eq_true rfl) dX4_waiting_2 (fun H locs hP hD hS => ?_)
  have hP : va_P D vwCl [(q 50, .inr (4, [.int (nI (a.1 0)), .int (nI (a.1 1)), .int (nI (a.1 2)), .int (nI (a.1 3)), .ref (q 54), .ref (q 55), .int (nI hd), .int (nI (a.1 4)), .int (nI (a.1 5)), .int (nI (a.1 6)), .int (nI (a.1 7)), .ref (q 61), .ref (q 62), .ref (q 63), .int (nI (a.1 8)), .ref (q 65), .ref (q 66), .int (nI (a.1 9)), .int (nI (a.1 10)), .int (nI (a.1 11)), .int (nI (a.1 12)), .int (nI 0)])), (q 54, .inl (cI, 32, .inl rg)), (q 55, .inl (cI, 32, .inl cm)), (q 61, .inl (cZ, 300, .inl (a.2 2))), (q 62, .inl (cZ, 300, .inl (a.2 3))), (q 63, .inl (cI, 300, .inl (a.2 4))), (q 65, .inl (cI, 100, .inl (a.2 5))), (q 66, .inl (cZ, 100, .inl co))] H := hP
  have hD : va_D A [(q 50, .inr (4, [.int (nI (a.1 0)), .int (nI (a.1 1)), .int (nI (a.1 2)), .int (nI (a.1 3)), .ref (q 54), .ref (q 55), .int (nI hd), .int (nI (a.1 4)), .int (nI (a.1 5)), .int (nI (a.1 6)), .int (nI (a.1 7)), .ref (q 61), .ref (q 62), .ref (q 63), .int (nI (a.1 8)), .ref (q 65), .ref (q 66), .int (nI (a.1 9)), .int (nI (a.1 10)), .int (nI (a.1 11)), .int (nI (a.1 12)), .int (nI 0)])), (q 54, .inl (cI, 32, .inl rg)), (q 55, .inl (cI, 32, .inl cm)), (q 61, .inl (cZ, 300, .inl (a.2 2))), (q 62, .inl (cZ, 300, .inl (a.2 3))), (q 63, .inl (cI, 300, .inl (a.2 4))), (q 65, .inl (cI, 100, .inl (a.2 5))), (q 66, .inl (cZ, 100, .inl co))] := hD
  refine lv_aload_n hx hb dX4_waiting_5 rfl (lv_at hl 0 rfl) ?_
  refine va_get (D := D) (ci := 4) (v := .int (nI (a.1 4))) (C := RX4) (T := TX4) (N := 22) hx hb hts hinX4 hown hK hP 0 rfl rfl 7 (by decide) (hts _ (List.mem_of_getElem? (i := 2) rfl)) (fun _ h9 => h9) rfl dX4_waiting_6 ?_
  exact k_iret (v := nI (a.1 4)) hx hb hr hlk rfl () rfl hP hD hS dX4_waiting_9
set_option maxHeartbeats 4000000 in
set_option maxRecDepth 100000 in
theorem c_X4_lost (l : Launch) (D : va_G) (cI cZ : ClassId) (q : Nat → Nat) (a : AS) (hd th : Nat) (rg cm co : Nat → Int32) : kMi l yX4_lost wsX4_lost 0 0 D (TY cI cZ) [.ref (q 50)] [(q 50, .inr (4, [.int (nI (a.1 0)), .int (nI (a.1 1)), .int (nI (a.1 2)), .int (nI (a.1 3)), .ref (q 54), .ref (q 55), .int (nI hd), .int (nI (a.1 4)), .int (nI (a.1 5)), .int (nI (a.1 6)), .int (nI (a.1 7)), .ref (q 61), .ref (q 62), .ref (q 63), .int (nI (a.1 8)), .ref (q 65), .ref (q 66), .int (nI (a.1 9)), .int (nI (a.1 10)), .int (nI (a.1 11)), .int (nI (a.1 12)), .int (nI th)])), (q 54, .inl (cI, 32, .inl rg)), (q 55, .inl (cI, 32, .inl cm)), (q 61, .inl (cZ, 300, .inl (a.2 2))), (q 62, .inl (cZ, 300, .inl (a.2 3))), (q 63, .inl (cI, 300, .inl (a.2 4))), (q 65, .inl (cI, 100, .inl (a.2 5))), (q 66, .inl (cZ, 100, .inl co))] (fun (r : Int32) (_ : Unit) => r = nI (a.1 6)) (fun (_ : Unit) => MW cI cZ q a hd rg cm 0 co) := by
  intro sz
  refine k_in (Qc := fun A => va_Qi (fun (r : Int32) (_ : Unit) => r = nI (a.1 6)) (kB D A (fun (_ : Unit) => MW cI cZ q a hd rg cm 0 co)) A) (cc := cX4_lost) (maxL := 1) (ret := (some .int)) (by decide) rfl (Nat.le_of_ble_eq_true rfl) ?_
  intro p e s m below meth c A ls hfix hr hlk hN hP hK hD hA hS hl
  have hfix : CallFix p m c cX4_lost 1 s [.ref (q 50)].toArray wsX4_lost RX4 := hfix
  have hl : lv_has ls 1 [(0, .ref (q 50))] := hl
  obtain ⟨hx, hb, hml, hown, hts⟩ := id hfix
  have hinX4 : ∀ w ∈ wsX40, w ∈ wsX4_lost := fun _ h => List.mem_cons_of_mem _ (List.mem_append_right _ h)
  have hP : va_P D vwCl [(q 50, .inr (4, [.int (nI (a.1 0)), .int (nI (a.1 1)), .int (nI (a.1 2)), .int (nI (a.1 3)), .ref (q 54), .ref (q 55), .int (nI hd), .int (nI (a.1 4)), .int (nI (a.1 5)), .int (nI (a.1 6)), .int (nI (a.1 7)), .ref (q 61), .ref (q 62), .ref (q 63), .int (nI (a.1 8)), .ref (q 65), .ref (q 66), .int (nI (a.1 9)), .int (nI (a.1 10)), .int (nI (a.1 11)), .int (nI (a.1 12)), .int (nI th)])), (q 54, .inl (cI, 32, .inl rg)), (q 55, .inl (cI, 32, .inl cm)), (q 61, .inl (cZ, 300, .inl (a.2 2))), (q 62, .inl (cZ, 300, .inl (a.2 3))), (q 63, .inl (cI, 300, .inl (a.2 4))), (q 65, .inl (cI, 100, .inl (a.2 5))), (q 66, .inl (cZ, 100, .inl co))] s.heap := hP
  have hD : va_D A [(q 50, .inr (4, [.int (nI (a.1 0)), .int (nI (a.1 1)), .int (nI (a.1 2)), .int (nI (a.1 3)), .ref (q 54), .ref (q 55), .int (nI hd), .int (nI (a.1 4)), .int (nI (a.1 5)), .int (nI (a.1 6)), .int (nI (a.1 7)), .ref (q 61), .ref (q 62), .ref (q 63), .int (nI (a.1 8)), .ref (q 65), .ref (q 66), .int (nI (a.1 9)), .int (nI (a.1 10)), .int (nI (a.1 11)), .int (nI (a.1 12)), .int (nI th)])), (q 54, .inl (cI, 32, .inl rg)), (q 55, .inl (cI, 32, .inl cm)), (q 61, .inl (cZ, 300, .inl (a.2 2))), (q 62, .inl (cZ, 300, .inl (a.2 3))), (q 63, .inl (cI, 300, .inl (a.2 4))), (q 65, .inl (cI, 100, .inl (a.2 5))), (q 66, .inl (cZ, 100, .inl co))] := hD
  have hS : ∃ (H : Heap) (locs : List Loc), H = s.heap ∧ locs = [] ∧ va_S A s.heap H locs := ⟨_, _, rfl, rfl, hS⟩
  obtain ⟨H, locs, hH, hlocs, hS⟩ := hS
  rw [← hH] at hP
  suffices hW9 : W p l e ({ frames := 0, cells := 0, slots := 0, locals := 0 } : Room) s m [.ref (q 50)].toArray below meth c H locs 0 0 (MQ below (va_Qi (fun (r : Int32) (_ : Unit) => r = nI (a.1 6)) (kB D A (fun (_ : Unit) => MW cI cZ q a hd rg cm 0 co)) A) [.ref (q 50)].toArray s 0 0 A) (F0 m 0 ls []) by rw [hH, hlocs] at hW9; exact hW9
  clear hH hlocs
  refine lv_aload_n hx hb dX4_lost_0 rfl (lv_at hl 0 rfl) ?_
  refine lv_iconst (v := nI 0) hx hb dX4_lost_1 (by decide) ?_
  refine va_put (D := D) (ci := 4) (v := .int (nI 0)) (ty := .int) (C := RX4) (T := TX4) (N := 22) hx hb hts hinX4 tyX4 tyX4_ok nmX4 hown hK hP hD hS 0 rfl rfl 21 (by decide) (hts _ (List.mem_of_getElem? (i := 1) rfl)) (fun _ h9 => h9) rfl (by decide +kernel) rfl rfl (Nat.le_of_ble_eq_true rfl) dX4_lost_2 (fun H locs hP hD hS => ?_)
  have hP : va_P D vwCl [(q 50, .inr (4, [.int (nI (a.1 0)), .int (nI (a.1 1)), .int (nI (a.1 2)), .int (nI (a.1 3)), .ref (q 54), .ref (q 55), .int (nI hd), .int (nI (a.1 4)), .int (nI (a.1 5)), .int (nI (a.1 6)), .int (nI (a.1 7)), .ref (q 61), .ref (q 62), .ref (q 63), .int (nI (a.1 8)), .ref (q 65), .ref (q 66), .int (nI (a.1 9)), .int (nI (a.1 10)), .int (nI (a.1 11)), .int (nI (a.1 12)), .int (nI 0)])), (q 54, .inl (cI, 32, .inl rg)), (q 55, .inl (cI, 32, .inl cm)), (q 61, .inl (cZ, 300, .inl (a.2 2))), (q 62, .inl (cZ, 300, .inl (a.2 3))), (q 63, .inl (cI, 300, .inl (a.2 4))), (q 65, .inl (cI, 100, .inl (a.2 5))), (q 66, .inl (cZ, 100, .inl co))] H := hP
  have hD : va_D A [(q 50, .inr (4, [.int (nI (a.1 0)), .int (nI (a.1 1)), .int (nI (a.1 2)), .int (nI (a.1 3)), .ref (q 54), .ref (q 55), .int (nI hd), .int (nI (a.1 4)), .int (nI (a.1 5)), .int (nI (a.1 6)), .int (nI (a.1 7)), .ref (q 61), .ref (q 62), .ref (q 63), .int (nI (a.1 8)), .ref (q 65), .ref (q 66), .int (nI (a.1 9)), .int (nI (a.1 10)), .int (nI (a.1 11)), .int (nI (a.1 12)), .int (nI 0)])), (q 54, .inl (cI, 32, .inl rg)), (q 55, .inl (cI, 32, .inl cm)), (q 61, .inl (cZ, 300, .inl (a.2 2))), (q 62, .inl (cZ, 300, .inl (a.2 3))), (q 63, .inl (cI, 300, .inl (a.2 4))), (q 65, .inl (cI, 100, .inl (a.2 5))), (q 66, .inl (cZ, 100, .inl co))] := hD
  refine lv_aload_n hx hb dX4_lost_5 rfl (lv_at hl 0 rfl) ?_
  refine va_get (D := D) (ci := 4) (v := .int (nI (a.1 6))) (C := RX4) (T := TX4) (N := 22) hx hb hts hinX4 hown hK hP 0 rfl rfl 9 (by decide) (hts _ (List.mem_of_getElem? (i := 2) rfl)) (fun _ h9 => h9) rfl dX4_lost_6 ?_
  exact k_iret (v := nI (a.1 6)) hx hb hr hlk rfl () rfl hP hD hS dX4_lost_9
set_option maxHeartbeats 4000000 in
set_option maxRecDepth 100000 in
theorem c_X4_isPolled (l : Launch) (D : va_G) (cI cZ : ClassId) (q : Nat → Nat) (a : AS) (hd th : Nat) (rg cm co : Nat → Int32) (hI : AI a) : kMi l yX4_isPolled wsX4_isPolled 0 0 D (TY cI cZ) [.ref (q 50)] [(q 50, .inr (4, [.int (nI (a.1 0)), .int (nI (a.1 1)), .int (nI (a.1 2)), .int (nI (a.1 3)), .ref (q 54), .ref (q 55), .int (nI hd), .int (nI (a.1 4)), .int (nI (a.1 5)), .int (nI (a.1 6)), .int (nI (a.1 7)), .ref (q 61), .ref (q 62), .ref (q 63), .int (nI (a.1 8)), .ref (q 65), .ref (q 66), .int (nI (a.1 9)), .int (nI (a.1 10)), .int (nI (a.1 11)), .int (nI (a.1 12)), .int (nI th)])), (q 54, .inl (cI, 32, .inl rg)), (q 55, .inl (cI, 32, .inl cm)), (q 61, .inl (cZ, 300, .inl (a.2 2))), (q 62, .inl (cZ, 300, .inl (a.2 3))), (q 63, .inl (cI, 300, .inl (a.2 4))), (q 65, .inl (cI, 100, .inl (a.2 5))), (q 66, .inl (cZ, 100, .inl co))] (fun (r : Int32) (_ : Unit) => r = nI (a.1 5)) (fun (_ : Unit) => MW cI cZ q a hd rg cm 0 co) := by
  obtain ⟨⟨i0, i4, i5, i7, i9, i10, i11, i12⟩, ⟨i1, i2, i3⟩, ⟨i8, i13, i14⟩, iQ, iH0, iH1, iW0, iW1, iN⟩ := id hI
  intro sz
  refine k_in (Qc := fun A => va_Qi (fun (r : Int32) (_ : Unit) => r = nI (a.1 5)) (kB D A (fun (_ : Unit) => MW cI cZ q a hd rg cm 0 co)) A) (cc := cX4_isPolled) (maxL := 1) (ret := (some .boolean)) (by decide) rfl (Nat.le_of_ble_eq_true rfl) ?_
  intro p e s m below meth c A ls hfix hr hlk hN hP hK hD hA hS hl
  have hfix : CallFix p m c cX4_isPolled 1 s [.ref (q 50)].toArray wsX4_isPolled RX4 := hfix
  have hl : lv_has ls 1 [(0, .ref (q 50))] := hl
  obtain ⟨hx, hb, hml, hown, hts⟩ := id hfix
  have hinX4 : ∀ w ∈ wsX40, w ∈ wsX4_isPolled := fun _ h => List.mem_cons_of_mem _ (List.mem_append_right _ h)
  have hP : va_P D vwCl [(q 50, .inr (4, [.int (nI (a.1 0)), .int (nI (a.1 1)), .int (nI (a.1 2)), .int (nI (a.1 3)), .ref (q 54), .ref (q 55), .int (nI hd), .int (nI (a.1 4)), .int (nI (a.1 5)), .int (nI (a.1 6)), .int (nI (a.1 7)), .ref (q 61), .ref (q 62), .ref (q 63), .int (nI (a.1 8)), .ref (q 65), .ref (q 66), .int (nI (a.1 9)), .int (nI (a.1 10)), .int (nI (a.1 11)), .int (nI (a.1 12)), .int (nI th)])), (q 54, .inl (cI, 32, .inl rg)), (q 55, .inl (cI, 32, .inl cm)), (q 61, .inl (cZ, 300, .inl (a.2 2))), (q 62, .inl (cZ, 300, .inl (a.2 3))), (q 63, .inl (cI, 300, .inl (a.2 4))), (q 65, .inl (cI, 100, .inl (a.2 5))), (q 66, .inl (cZ, 100, .inl co))] s.heap := hP
  have hD : va_D A [(q 50, .inr (4, [.int (nI (a.1 0)), .int (nI (a.1 1)), .int (nI (a.1 2)), .int (nI (a.1 3)), .ref (q 54), .ref (q 55), .int (nI hd), .int (nI (a.1 4)), .int (nI (a.1 5)), .int (nI (a.1 6)), .int (nI (a.1 7)), .ref (q 61), .ref (q 62), .ref (q 63), .int (nI (a.1 8)), .ref (q 65), .ref (q 66), .int (nI (a.1 9)), .int (nI (a.1 10)), .int (nI (a.1 11)), .int (nI (a.1 12)), .int (nI th)])), (q 54, .inl (cI, 32, .inl rg)), (q 55, .inl (cI, 32, .inl cm)), (q 61, .inl (cZ, 300, .inl (a.2 2))), (q 62, .inl (cZ, 300, .inl (a.2 3))), (q 63, .inl (cI, 300, .inl (a.2 4))), (q 65, .inl (cI, 100, .inl (a.2 5))), (q 66, .inl (cZ, 100, .inl co))] := hD
  have hS : ∃ (H : Heap) (locs : List Loc), H = s.heap ∧ locs = [] ∧ va_S A s.heap H locs := ⟨_, _, rfl, rfl, hS⟩
  obtain ⟨H, locs, hH, hlocs, hS⟩ := hS
  rw [← hH] at hP
  suffices hW9 : W p l e ({ frames := 0, cells := 0, slots := 0, locals := 0 } : Room) s m [.ref (q 50)].toArray below meth c H locs 0 0 (MQ below (va_Qi (fun (r : Int32) (_ : Unit) => r = nI (a.1 5)) (kB D A (fun (_ : Unit) => MW cI cZ q a hd rg cm 0 co)) A) [.ref (q 50)].toArray s 0 0 A) (F0 m 0 ls []) by rw [hH, hlocs] at hW9; exact hW9
  clear hH hlocs
  refine lv_aload_n hx hb dX4_isPolled_0 rfl (lv_at hl 0 rfl) ?_
  refine lv_iconst (v := nI 0) hx hb dX4_isPolled_1 (by decide) ?_
  refine va_put (D := D) (ci := 4) (v := .int (nI 0)) (ty := .int) (C := RX4) (T := TX4) (N := 22) hx hb hts hinX4 tyX4 tyX4_ok nmX4 hown hK hP hD hS 0 rfl rfl 21 (by decide) (hts _ (List.mem_of_getElem? (i := 1) rfl)) (fun _ h9 => h9) rfl (by decide +kernel) rfl rfl (Nat.le_of_ble_eq_true rfl) dX4_isPolled_2 (fun H locs hP hD hS => ?_)
  have hP : va_P D vwCl [(q 50, .inr (4, [.int (nI (a.1 0)), .int (nI (a.1 1)), .int (nI (a.1 2)), .int (nI (a.1 3)), .ref (q 54), .ref (q 55), .int (nI hd), .int (nI (a.1 4)), .int (nI (a.1 5)), .int (nI (a.1 6)), .int (nI (a.1 7)), .ref (q 61), .ref (q 62), .ref (q 63), .int (nI (a.1 8)), .ref (q 65), .ref (q 66), .int (nI (a.1 9)), .int (nI (a.1 10)), .int (nI (a.1 11)), .int (nI (a.1 12)), .int (nI 0)])), (q 54, .inl (cI, 32, .inl rg)), (q 55, .inl (cI, 32, .inl cm)), (q 61, .inl (cZ, 300, .inl (a.2 2))), (q 62, .inl (cZ, 300, .inl (a.2 3))), (q 63, .inl (cI, 300, .inl (a.2 4))), (q 65, .inl (cI, 100, .inl (a.2 5))), (q 66, .inl (cZ, 100, .inl co))] H := hP
  have hD : va_D A [(q 50, .inr (4, [.int (nI (a.1 0)), .int (nI (a.1 1)), .int (nI (a.1 2)), .int (nI (a.1 3)), .ref (q 54), .ref (q 55), .int (nI hd), .int (nI (a.1 4)), .int (nI (a.1 5)), .int (nI (a.1 6)), .int (nI (a.1 7)), .ref (q 61), .ref (q 62), .ref (q 63), .int (nI (a.1 8)), .ref (q 65), .ref (q 66), .int (nI (a.1 9)), .int (nI (a.1 10)), .int (nI (a.1 11)), .int (nI (a.1 12)), .int (nI 0)])), (q 54, .inl (cI, 32, .inl rg)), (q 55, .inl (cI, 32, .inl cm)), (q 61, .inl (cZ, 300, .inl (a.2 2))), (q 62, .inl (cZ, 300, .inl (a.2 3))), (q 63, .inl (cI, 300, .inl (a.2 4))), (q 65, .inl (cI, 100, .inl (a.2 5))), (q 66, .inl (cZ, 100, .inl co))] := hD
  refine lv_aload_n hx hb dX4_isPolled_5 rfl (lv_at hl 0 rfl) ?_
  refine va_get (D := D) (ci := 4) (v := .int (nI (a.1 5))) (C := RX4) (T := TX4) (N := 22) hx hb hts hinX4 hown hK hP 0 rfl rfl 8 (by decide) (hts _ (List.mem_of_getElem? (i := 2) rfl)) (fun _ h9 => h9) rfl dX4_isPolled_6 ?_
  exact k_iret (v := nI (a.1 5)) hx hb hr hlk (by rcases (show a.1 5 = 0 ∨ a.1 5 = 1 by omega) with h | h <;> rw [h] <;> decide) () rfl hP hD hS dX4_isPolled_9
set_option maxHeartbeats 4000000 in
set_option maxRecDepth 100000 in
theorem c_X4_asked (l : Launch) (D : va_G) (cI cZ : ClassId) (q : Nat → Nat) (a : AS) (hd th : Nat) (rg cm co : Nat → Int32) : kMi l yX4_asked wsX4_asked 0 0 D (TY cI cZ) [.ref (q 50)] [(q 50, .inr (4, [.int (nI (a.1 0)), .int (nI (a.1 1)), .int (nI (a.1 2)), .int (nI (a.1 3)), .ref (q 54), .ref (q 55), .int (nI hd), .int (nI (a.1 4)), .int (nI (a.1 5)), .int (nI (a.1 6)), .int (nI (a.1 7)), .ref (q 61), .ref (q 62), .ref (q 63), .int (nI (a.1 8)), .ref (q 65), .ref (q 66), .int (nI (a.1 9)), .int (nI (a.1 10)), .int (nI (a.1 11)), .int (nI (a.1 12)), .int (nI th)])), (q 54, .inl (cI, 32, .inl rg)), (q 55, .inl (cI, 32, .inl cm)), (q 61, .inl (cZ, 300, .inl (a.2 2))), (q 62, .inl (cZ, 300, .inl (a.2 3))), (q 63, .inl (cI, 300, .inl (a.2 4))), (q 65, .inl (cI, 100, .inl (a.2 5))), (q 66, .inl (cZ, 100, .inl co))] (fun (r : Int32) (_ : Unit) => r = nI (a.1 8)) (fun (_ : Unit) => MW cI cZ q a hd rg cm 0 co) := by
  intro sz
  refine k_in (Qc := fun A => va_Qi (fun (r : Int32) (_ : Unit) => r = nI (a.1 8)) (kB D A (fun (_ : Unit) => MW cI cZ q a hd rg cm 0 co)) A) (cc := cX4_asked) (maxL := 1) (ret := (some .int)) (by decide) rfl (Nat.le_of_ble_eq_true rfl) ?_
  intro p e s m below meth c A ls hfix hr hlk hN hP hK hD hA hS hl
  have hfix : CallFix p m c cX4_asked 1 s [.ref (q 50)].toArray wsX4_asked RX4 := hfix
  have hl : lv_has ls 1 [(0, .ref (q 50))] := hl
  obtain ⟨hx, hb, hml, hown, hts⟩ := id hfix
  have hinX4 : ∀ w ∈ wsX40, w ∈ wsX4_asked := fun _ h => List.mem_cons_of_mem _ (List.mem_append_right _ h)
  have hP : va_P D vwCl [(q 50, .inr (4, [.int (nI (a.1 0)), .int (nI (a.1 1)), .int (nI (a.1 2)), .int (nI (a.1 3)), .ref (q 54), .ref (q 55), .int (nI hd), .int (nI (a.1 4)), .int (nI (a.1 5)), .int (nI (a.1 6)), .int (nI (a.1 7)), .ref (q 61), .ref (q 62), .ref (q 63), .int (nI (a.1 8)), .ref (q 65), .ref (q 66), .int (nI (a.1 9)), .int (nI (a.1 10)), .int (nI (a.1 11)), .int (nI (a.1 12)), .int (nI th)])), (q 54, .inl (cI, 32, .inl rg)), (q 55, .inl (cI, 32, .inl cm)), (q 61, .inl (cZ, 300, .inl (a.2 2))), (q 62, .inl (cZ, 300, .inl (a.2 3))), (q 63, .inl (cI, 300, .inl (a.2 4))), (q 65, .inl (cI, 100, .inl (a.2 5))), (q 66, .inl (cZ, 100, .inl co))] s.heap := hP
  have hD : va_D A [(q 50, .inr (4, [.int (nI (a.1 0)), .int (nI (a.1 1)), .int (nI (a.1 2)), .int (nI (a.1 3)), .ref (q 54), .ref (q 55), .int (nI hd), .int (nI (a.1 4)), .int (nI (a.1 5)), .int (nI (a.1 6)), .int (nI (a.1 7)), .ref (q 61), .ref (q 62), .ref (q 63), .int (nI (a.1 8)), .ref (q 65), .ref (q 66), .int (nI (a.1 9)), .int (nI (a.1 10)), .int (nI (a.1 11)), .int (nI (a.1 12)), .int (nI th)])), (q 54, .inl (cI, 32, .inl rg)), (q 55, .inl (cI, 32, .inl cm)), (q 61, .inl (cZ, 300, .inl (a.2 2))), (q 62, .inl (cZ, 300, .inl (a.2 3))), (q 63, .inl (cI, 300, .inl (a.2 4))), (q 65, .inl (cI, 100, .inl (a.2 5))), (q 66, .inl (cZ, 100, .inl co))] := hD
  have hS : ∃ (H : Heap) (locs : List Loc), H = s.heap ∧ locs = [] ∧ va_S A s.heap H locs := ⟨_, _, rfl, rfl, hS⟩
  obtain ⟨H, locs, hH, hlocs, hS⟩ := hS
  rw [← hH] at hP
  suffices hW9 : W p l e ({ frames := 0, cells := 0, slots := 0, locals := 0 } : Room) s m [.ref (q 50)].toArray below meth c H locs 0 0 (MQ below (va_Qi (fun (r : Int32) (_ : Unit) => r = nI (a.1 8)) (kB D A (fun (_ : Unit) => MW cI cZ q a hd rg cm 0 co)) A) [.ref (q 50)].toArray s 0 0 A) (F0 m 0 ls []) by rw [hH, hlocs] at hW9; exact hW9
  clear hH hlocs
  refine lv_aload_n hx hb dX4_asked_0 rfl (lv_at hl 0 rfl) ?_
  refine lv_iconst (v := nI 0) hx hb dX4_asked_1 (by decide) ?_
  refine va_put (D := D) (ci := 4) (v := .int (nI 0)) (ty := .int) (C := RX4) (T := TX4) (N := 22) hx hb hts hinX4 tyX4 tyX4_ok nmX4 hown hK hP hD hS 0 rfl rfl 21 (by decide) (hts _ (List.mem_of_getElem? (i := 1) rfl)) (fun _ h9 => h9) rfl (by decide +kernel) rfl rfl (Nat.le_of_ble_eq_true rfl) dX4_asked_2 (fun H locs hP hD hS => ?_)
  have hP : va_P D vwCl [(q 50, .inr (4, [.int (nI (a.1 0)), .int (nI (a.1 1)), .int (nI (a.1 2)), .int (nI (a.1 3)), .ref (q 54), .ref (q 55), .int (nI hd), .int (nI (a.1 4)), .int (nI (a.1 5)), .int (nI (a.1 6)), .int (nI (a.1 7)), .ref (q 61), .ref (q 62), .ref (q 63), .int (nI (a.1 8)), .ref (q 65), .ref (q 66), .int (nI (a.1 9)), .int (nI (a.1 10)), .int (nI (a.1 11)), .int (nI (a.1 12)), .int (nI 0)])), (q 54, .inl (cI, 32, .inl rg)), (q 55, .inl (cI, 32, .inl cm)), (q 61, .inl (cZ, 300, .inl (a.2 2))), (q 62, .inl (cZ, 300, .inl (a.2 3))), (q 63, .inl (cI, 300, .inl (a.2 4))), (q 65, .inl (cI, 100, .inl (a.2 5))), (q 66, .inl (cZ, 100, .inl co))] H := hP
  have hD : va_D A [(q 50, .inr (4, [.int (nI (a.1 0)), .int (nI (a.1 1)), .int (nI (a.1 2)), .int (nI (a.1 3)), .ref (q 54), .ref (q 55), .int (nI hd), .int (nI (a.1 4)), .int (nI (a.1 5)), .int (nI (a.1 6)), .int (nI (a.1 7)), .ref (q 61), .ref (q 62), .ref (q 63), .int (nI (a.1 8)), .ref (q 65), .ref (q 66), .int (nI (a.1 9)), .int (nI (a.1 10)), .int (nI (a.1 11)), .int (nI (a.1 12)), .int (nI 0)])), (q 54, .inl (cI, 32, .inl rg)), (q 55, .inl (cI, 32, .inl cm)), (q 61, .inl (cZ, 300, .inl (a.2 2))), (q 62, .inl (cZ, 300, .inl (a.2 3))), (q 63, .inl (cI, 300, .inl (a.2 4))), (q 65, .inl (cI, 100, .inl (a.2 5))), (q 66, .inl (cZ, 100, .inl co))] := hD
  refine lv_aload_n hx hb dX4_asked_5 rfl (lv_at hl 0 rfl) ?_
  refine va_get (D := D) (ci := 4) (v := .int (nI (a.1 8))) (C := RX4) (T := TX4) (N := 22) hx hb hts hinX4 hown hK hP 0 rfl rfl 14 (by decide) (hts _ (List.mem_of_getElem? (i := 2) rfl)) (fun _ h9 => h9) rfl dX4_asked_6 ?_
  exact k_iret (v := nI (a.1 8)) hx hb hr hlk rfl () rfl hP hD hS dX4_asked_9
set_option maxHeartbeats 4000000 in
set_option maxRecDepth 100000 in
theorem c_X4_next (l : Launch) (D : va_G) (cI cZ : ClassId) (q : Nat → Nat) (a : AS) (hd th : Nat) (rg cm co : Nat → Int32) (hI : AI a) : kMi l yX4_next wsX4_next 0 0 D (TY cI cZ) [.ref (q 50)] [(q 50, .inr (4, [.int (nI (a.1 0)), .int (nI (a.1 1)), .int (nI (a.1 2)), .int (nI (a.1 3)), .ref (q 54), .ref (q 55), .int (nI hd), .int (nI (a.1 4)), .int (nI (a.1 5)), .int (nI (a.1 6)), .int (nI (a.1 7)), .ref (q 61), .ref (q 62), .ref (q 63), .int (nI (a.1 8)), .ref (q 65), .ref (q 66), .int (nI (a.1 9)), .int (nI (a.1 10)), .int (nI (a.1 11)), .int (nI (a.1 12)), .int (nI th)])), (q 54, .inl (cI, 32, .inl rg)), (q 55, .inl (cI, 32, .inl cm)), (q 61, .inl (cZ, 300, .inl (a.2 2))), (q 62, .inl (cZ, 300, .inl (a.2 3))), (q 63, .inl (cI, 300, .inl (a.2 4))), (q 65, .inl (cI, 100, .inl (a.2 5))), (q 66, .inl (cZ, 100, .inl co))] (fun (r : Int32) (_ : Unit) => r = (if a.1 11 < 100 then nI (a.1 11) else (-1))) (fun (_ : Unit) => MW cI cZ q a hd rg cm 0 co) := by
  obtain ⟨⟨i0, i4, i5, i7, i9, i10, i11, i12⟩, ⟨i1, i2, i3⟩, ⟨i8, i13, i14⟩, iQ, iH0, iH1, iW0, iW1, iN⟩ := id hI
  intro sz
  refine k_in (Qc := fun A => va_Qi (fun (r : Int32) (_ : Unit) => r = (if a.1 11 < 100 then nI (a.1 11) else (-1))) (kB D A (fun (_ : Unit) => MW cI cZ q a hd rg cm 0 co)) A) (cc := cX4_next) (maxL := 1) (ret := (some .int)) (by decide) rfl (Nat.le_of_ble_eq_true rfl) ?_
  intro p e s m below meth c A ls hfix hr hlk hN hP hK hD hA hS hl
  have hfix : CallFix p m c cX4_next 1 s [.ref (q 50)].toArray wsX4_next RX4 := hfix
  have hl : lv_has ls 1 [(0, .ref (q 50))] := hl
  obtain ⟨hx, hb, hml, hown, hts⟩ := id hfix
  have hinX4 : ∀ w ∈ wsX40, w ∈ wsX4_next := fun _ h => List.mem_cons_of_mem _ (List.mem_append_right _ h)
  have hP : va_P D vwCl [(q 50, .inr (4, [.int (nI (a.1 0)), .int (nI (a.1 1)), .int (nI (a.1 2)), .int (nI (a.1 3)), .ref (q 54), .ref (q 55), .int (nI hd), .int (nI (a.1 4)), .int (nI (a.1 5)), .int (nI (a.1 6)), .int (nI (a.1 7)), .ref (q 61), .ref (q 62), .ref (q 63), .int (nI (a.1 8)), .ref (q 65), .ref (q 66), .int (nI (a.1 9)), .int (nI (a.1 10)), .int (nI (a.1 11)), .int (nI (a.1 12)), .int (nI th)])), (q 54, .inl (cI, 32, .inl rg)), (q 55, .inl (cI, 32, .inl cm)), (q 61, .inl (cZ, 300, .inl (a.2 2))), (q 62, .inl (cZ, 300, .inl (a.2 3))), (q 63, .inl (cI, 300, .inl (a.2 4))), (q 65, .inl (cI, 100, .inl (a.2 5))), (q 66, .inl (cZ, 100, .inl co))] s.heap := hP
  have hD : va_D A [(q 50, .inr (4, [.int (nI (a.1 0)), .int (nI (a.1 1)), .int (nI (a.1 2)), .int (nI (a.1 3)), .ref (q 54), .ref (q 55), .int (nI hd), .int (nI (a.1 4)), .int (nI (a.1 5)), .int (nI (a.1 6)), .int (nI (a.1 7)), .ref (q 61), .ref (q 62), .ref (q 63), .int (nI (a.1 8)), .ref (q 65), .ref (q 66), .int (nI (a.1 9)), .int (nI (a.1 10)), .int (nI (a.1 11)), .int (nI (a.1 12)), .int (nI th)])), (q 54, .inl (cI, 32, .inl rg)), (q 55, .inl (cI, 32, .inl cm)), (q 61, .inl (cZ, 300, .inl (a.2 2))), (q 62, .inl (cZ, 300, .inl (a.2 3))), (q 63, .inl (cI, 300, .inl (a.2 4))), (q 65, .inl (cI, 100, .inl (a.2 5))), (q 66, .inl (cZ, 100, .inl co))] := hD
  have hS : ∃ (H : Heap) (locs : List Loc), H = s.heap ∧ locs = [] ∧ va_S A s.heap H locs := ⟨_, _, rfl, rfl, hS⟩
  obtain ⟨H, locs, hH, hlocs, hS⟩ := hS
  rw [← hH] at hP
  suffices hW9 : W p l e ({ frames := 0, cells := 0, slots := 0, locals := 0 } : Room) s m [.ref (q 50)].toArray below meth c H locs 0 0 (MQ below (va_Qi (fun (r : Int32) (_ : Unit) => r = (if a.1 11 < 100 then nI (a.1 11) else (-1))) (kB D A (fun (_ : Unit) => MW cI cZ q a hd rg cm 0 co)) A) [.ref (q 50)].toArray s 0 0 A) (F0 m 0 ls []) by rw [hH, hlocs] at hW9; exact hW9
  clear hH hlocs
  refine lv_aload_n hx hb dX4_next_0 rfl (lv_at hl 0 rfl) ?_
  refine lv_iconst (v := nI 0) hx hb dX4_next_1 (by decide) ?_
  refine va_put (D := D) (ci := 4) (v := .int (nI 0)) (ty := .int) (C := RX4) (T := TX4) (N := 22) hx hb hts hinX4 tyX4 tyX4_ok nmX4 hown hK hP hD hS 0 rfl rfl 21 (by decide) (hts _ (List.mem_of_getElem? (i := 1) rfl)) (fun _ h9 => h9) rfl (by decide +kernel) rfl rfl (Nat.le_of_ble_eq_true rfl) dX4_next_2 (fun H locs hP hD hS => ?_)
  have hP : va_P D vwCl [(q 50, .inr (4, [.int (nI (a.1 0)), .int (nI (a.1 1)), .int (nI (a.1 2)), .int (nI (a.1 3)), .ref (q 54), .ref (q 55), .int (nI hd), .int (nI (a.1 4)), .int (nI (a.1 5)), .int (nI (a.1 6)), .int (nI (a.1 7)), .ref (q 61), .ref (q 62), .ref (q 63), .int (nI (a.1 8)), .ref (q 65), .ref (q 66), .int (nI (a.1 9)), .int (nI (a.1 10)), .int (nI (a.1 11)), .int (nI (a.1 12)), .int (nI 0)])), (q 54, .inl (cI, 32, .inl rg)), (q 55, .inl (cI, 32, .inl cm)), (q 61, .inl (cZ, 300, .inl (a.2 2))), (q 62, .inl (cZ, 300, .inl (a.2 3))), (q 63, .inl (cI, 300, .inl (a.2 4))), (q 65, .inl (cI, 100, .inl (a.2 5))), (q 66, .inl (cZ, 100, .inl co))] H := hP
  have hD : va_D A [(q 50, .inr (4, [.int (nI (a.1 0)), .int (nI (a.1 1)), .int (nI (a.1 2)), .int (nI (a.1 3)), .ref (q 54), .ref (q 55), .int (nI hd), .int (nI (a.1 4)), .int (nI (a.1 5)), .int (nI (a.1 6)), .int (nI (a.1 7)), .ref (q 61), .ref (q 62), .ref (q 63), .int (nI (a.1 8)), .ref (q 65), .ref (q 66), .int (nI (a.1 9)), .int (nI (a.1 10)), .int (nI (a.1 11)), .int (nI (a.1 12)), .int (nI 0)])), (q 54, .inl (cI, 32, .inl rg)), (q 55, .inl (cI, 32, .inl cm)), (q 61, .inl (cZ, 300, .inl (a.2 2))), (q 62, .inl (cZ, 300, .inl (a.2 3))), (q 63, .inl (cI, 300, .inl (a.2 4))), (q 65, .inl (cI, 100, .inl (a.2 5))), (q 66, .inl (cZ, 100, .inl co))] := hD
  refine lv_aload_n hx hb dX4_next_5 rfl (lv_at hl 0 rfl) ?_
  refine va_get (D := D) (ci := 4) (v := .int (nI (a.1 11))) (C := RX4) (T := TX4) (N := 22) hx hb hts hinX4 hown hK hP 0 rfl rfl 19 (by decide) (hts _ (List.mem_of_getElem? (i := 2) rfl)) (fun _ h9 => h9) rfl dX4_next_6 ?_
  refine lv_bipush (v := nI 100) hx hb dX4_next_9 (by decide) ?_
  refine k_icmp_ge (tgt := 21) hx hb (by omega) (by omega) dX4_next_11 (by decide) (fun c_11 => ?_) (fun c_11 => ?_)
  · -- c_11 taken
    refine lv_iconst (v := (-1)) hx hb dX4_next_21 (by decide) ?_
    exact k_iret (v := (-1)) hx hb hr hlk rfl () ((if_neg (by omega)).symm) hP hD hS dX4_next_22
  · -- c_11 not taken
    refine lv_aload_n hx hb dX4_next_14 rfl (lv_at hl 0 rfl) ?_
    refine va_get (D := D) (ci := 4) (v := .int (nI (a.1 11))) (C := RX4) (T := TX4) (N := 22) hx hb hts hinX4 hown hK hP 0 rfl rfl 19 (by decide) (hts _ (List.mem_of_getElem? (i := 2) rfl)) (fun _ h9 => h9) rfl dX4_next_15 ?_
    refine lv_goto (tgt := 22) hx hb dX4_next_18 (by decide) ?_
    exact k_iret (v := nI (a.1 11)) hx hb hr hlk rfl () ((if_pos c_11).symm) hP hD hS dX4_next_22
set_option maxHeartbeats 4000000 in
set_option maxRecDepth 100000 in
theorem c_X4_turn (l : Launch) (D : va_G) (cI cZ : ClassId) (q : Nat → Nat) (a : AS) (hd th : Nat) (rg cm co : Nat → Int32) (hI : AI a) : kMi l yX4_turn wsX4_turn 0 0 D (TY cI cZ) [.ref (q 50)] [(q 50, .inr (4, [.int (nI (a.1 0)), .int (nI (a.1 1)), .int (nI (a.1 2)), .int (nI (a.1 3)), .ref (q 54), .ref (q 55), .int (nI hd), .int (nI (a.1 4)), .int (nI (a.1 5)), .int (nI (a.1 6)), .int (nI (a.1 7)), .ref (q 61), .ref (q 62), .ref (q 63), .int (nI (a.1 8)), .ref (q 65), .ref (q 66), .int (nI (a.1 9)), .int (nI (a.1 10)), .int (nI (a.1 11)), .int (nI (a.1 12)), .int (nI th)])), (q 54, .inl (cI, 32, .inl rg)), (q 55, .inl (cI, 32, .inl cm)), (q 61, .inl (cZ, 300, .inl (a.2 2))), (q 62, .inl (cZ, 300, .inl (a.2 3))), (q 63, .inl (cI, 300, .inl (a.2 4))), (q 65, .inl (cI, 100, .inl (a.2 5))), (q 66, .inl (cZ, 100, .inl co))] (fun (r : Int32) (_ : Unit) => r = tT a) (fun (_ : Unit) => MW cI cZ q a hd rg cm 0 co) := by
  obtain ⟨⟨i0, i4, i5, i7, i9, i10, i11, i12⟩, ⟨i1, i2, i3⟩, ⟨i8, i13, i14⟩, iQ, iH0, iH1, iW0, iW1, iN⟩ := id hI
  intro sz
  refine k_in (Qc := fun A => va_Qi (fun (r : Int32) (_ : Unit) => r = tT a) (kB D A (fun (_ : Unit) => MW cI cZ q a hd rg cm 0 co)) A) (cc := cX4_turn) (maxL := 1) (ret := (some .int)) (by decide) rfl (Nat.le_of_ble_eq_true rfl) ?_
  intro p e s m below meth c A ls hfix hr hlk hN hP hK hD hA hS hl
  have hfix : CallFix p m c cX4_turn 1 s [.ref (q 50)].toArray wsX4_turn RX4 := hfix
  have hl : lv_has ls 1 [(0, .ref (q 50))] := hl
  obtain ⟨hx, hb, hml, hown, hts⟩ := id hfix
  have hinX4 : ∀ w ∈ wsX40, w ∈ wsX4_turn := fun _ h => List.mem_cons_of_mem _ (List.mem_append_right _ h)
  have hP : va_P D vwCl [(q 50, .inr (4, [.int (nI (a.1 0)), .int (nI (a.1 1)), .int (nI (a.1 2)), .int (nI (a.1 3)), .ref (q 54), .ref (q 55), .int (nI hd), .int (nI (a.1 4)), .int (nI (a.1 5)), .int (nI (a.1 6)), .int (nI (a.1 7)), .ref (q 61), .ref (q 62), .ref (q 63), .int (nI (a.1 8)), .ref (q 65), .ref (q 66), .int (nI (a.1 9)), .int (nI (a.1 10)), .int (nI (a.1 11)), .int (nI (a.1 12)), .int (nI th)])), (q 54, .inl (cI, 32, .inl rg)), (q 55, .inl (cI, 32, .inl cm)), (q 61, .inl (cZ, 300, .inl (a.2 2))), (q 62, .inl (cZ, 300, .inl (a.2 3))), (q 63, .inl (cI, 300, .inl (a.2 4))), (q 65, .inl (cI, 100, .inl (a.2 5))), (q 66, .inl (cZ, 100, .inl co))] s.heap := hP
  have hD : va_D A [(q 50, .inr (4, [.int (nI (a.1 0)), .int (nI (a.1 1)), .int (nI (a.1 2)), .int (nI (a.1 3)), .ref (q 54), .ref (q 55), .int (nI hd), .int (nI (a.1 4)), .int (nI (a.1 5)), .int (nI (a.1 6)), .int (nI (a.1 7)), .ref (q 61), .ref (q 62), .ref (q 63), .int (nI (a.1 8)), .ref (q 65), .ref (q 66), .int (nI (a.1 9)), .int (nI (a.1 10)), .int (nI (a.1 11)), .int (nI (a.1 12)), .int (nI th)])), (q 54, .inl (cI, 32, .inl rg)), (q 55, .inl (cI, 32, .inl cm)), (q 61, .inl (cZ, 300, .inl (a.2 2))), (q 62, .inl (cZ, 300, .inl (a.2 3))), (q 63, .inl (cI, 300, .inl (a.2 4))), (q 65, .inl (cI, 100, .inl (a.2 5))), (q 66, .inl (cZ, 100, .inl co))] := hD
  have hS : ∃ (H : Heap) (locs : List Loc), H = s.heap ∧ locs = [] ∧ va_S A s.heap H locs := ⟨_, _, rfl, rfl, hS⟩
  obtain ⟨H, locs, hH, hlocs, hS⟩ := hS
  rw [← hH] at hP
  suffices hW9 : W p l e ({ frames := 0, cells := 0, slots := 0, locals := 0 } : Room) s m [.ref (q 50)].toArray below meth c H locs 0 0 (MQ below (va_Qi (fun (r : Int32) (_ : Unit) => r = tT a) (kB D A (fun (_ : Unit) => MW cI cZ q a hd rg cm 0 co)) A) [.ref (q 50)].toArray s 0 0 A) (F0 m 0 ls []) by rw [hH, hlocs] at hW9; exact hW9
  clear hH hlocs
  refine lv_aload_n hx hb dX4_turn_0 rfl (lv_at hl 0 rfl) ?_
  refine lv_iconst (v := nI 0) hx hb dX4_turn_1 (by decide) ?_
  refine va_put (D := D) (ci := 4) (v := .int (nI 0)) (ty := .int) (C := RX4) (T := TX4) (N := 22) hx hb hts hinX4 tyX4 tyX4_ok nmX4 hown hK hP hD hS 0 rfl rfl 21 (by decide) (hts _ (List.mem_of_getElem? (i := 1) rfl)) (fun _ h9 => h9) rfl (by decide +kernel) rfl rfl (Nat.le_of_ble_eq_true rfl) dX4_turn_2 (fun H locs hP hD hS => ?_)
  have hP : va_P D vwCl [(q 50, .inr (4, [.int (nI (a.1 0)), .int (nI (a.1 1)), .int (nI (a.1 2)), .int (nI (a.1 3)), .ref (q 54), .ref (q 55), .int (nI hd), .int (nI (a.1 4)), .int (nI (a.1 5)), .int (nI (a.1 6)), .int (nI (a.1 7)), .ref (q 61), .ref (q 62), .ref (q 63), .int (nI (a.1 8)), .ref (q 65), .ref (q 66), .int (nI (a.1 9)), .int (nI (a.1 10)), .int (nI (a.1 11)), .int (nI (a.1 12)), .int (nI 0)])), (q 54, .inl (cI, 32, .inl rg)), (q 55, .inl (cI, 32, .inl cm)), (q 61, .inl (cZ, 300, .inl (a.2 2))), (q 62, .inl (cZ, 300, .inl (a.2 3))), (q 63, .inl (cI, 300, .inl (a.2 4))), (q 65, .inl (cI, 100, .inl (a.2 5))), (q 66, .inl (cZ, 100, .inl co))] H := hP
  have hD : va_D A [(q 50, .inr (4, [.int (nI (a.1 0)), .int (nI (a.1 1)), .int (nI (a.1 2)), .int (nI (a.1 3)), .ref (q 54), .ref (q 55), .int (nI hd), .int (nI (a.1 4)), .int (nI (a.1 5)), .int (nI (a.1 6)), .int (nI (a.1 7)), .ref (q 61), .ref (q 62), .ref (q 63), .int (nI (a.1 8)), .ref (q 65), .ref (q 66), .int (nI (a.1 9)), .int (nI (a.1 10)), .int (nI (a.1 11)), .int (nI (a.1 12)), .int (nI 0)])), (q 54, .inl (cI, 32, .inl rg)), (q 55, .inl (cI, 32, .inl cm)), (q 61, .inl (cZ, 300, .inl (a.2 2))), (q 62, .inl (cZ, 300, .inl (a.2 3))), (q 63, .inl (cI, 300, .inl (a.2 4))), (q 65, .inl (cI, 100, .inl (a.2 5))), (q 66, .inl (cZ, 100, .inl co))] := hD
  refine lv_aload_n hx hb dX4_turn_5 rfl (lv_at hl 0 rfl) ?_
  refine va_get (D := D) (ci := 4) (v := .int (nI (a.1 9))) (C := RX4) (T := TX4) (N := 22) hx hb hts hinX4 hown hK hP 0 rfl rfl 17 (by decide) (hts _ (List.mem_of_getElem? (i := 2) rfl)) (fun _ h9 => h9) rfl dX4_turn_6 ?_
  refine k_if_eq (tgt := 28) hx hb (by omega) dX4_turn_9 (by decide) (fun c_9 => ?_) (fun c_9 => ?_)
  · -- c_9 taken
    refine lv_iconst (v := (-1)) hx hb dX4_turn_28 (by decide) ?_
    exact k_iret (v := (-1)) hx hb hr hlk rfl () ((if_pos (Or.inl c_9)).symm) hP hD hS dX4_turn_29
  · -- c_9 not taken
    refine lv_aload_n hx hb dX4_turn_12 rfl (lv_at hl 0 rfl) ?_
    refine va_get (D := D) (ci := 4) (v := .int (nI (a.1 11))) (C := RX4) (T := TX4) (N := 22) hx hb hts hinX4 hown hK hP 0 rfl rfl 19 (by decide) (hts _ (List.mem_of_getElem? (i := 3) rfl)) (fun _ h9 => h9) rfl dX4_turn_13 ?_
    refine lv_bipush (v := nI 100) hx hb dX4_turn_16 (by decide) ?_
    refine k_icmp_ge (tgt := 28) hx hb (by omega) (by omega) dX4_turn_18 (by decide) (fun c_18 => ?_) (fun c_18 => ?_)
    · -- c_18 taken
      refine lv_iconst (v := (-1)) hx hb dX4_turn_28 (by decide) ?_
      exact k_iret (v := (-1)) hx hb hr hlk rfl () ((if_pos (Or.inr c_18)).symm) hP hD hS dX4_turn_29
    · -- c_18 not taken
      refine lv_aload_n hx hb dX4_turn_21 rfl (lv_at hl 0 rfl) ?_
      refine va_get (D := D) (ci := 4) (v := .int (nI (a.1 12))) (C := RX4) (T := TX4) (N := 22) hx hb hts hinX4 hown hK hP 0 rfl rfl 20 (by decide) (hts _ (List.mem_of_getElem? (i := 4) rfl)) (fun _ h9 => h9) rfl dX4_turn_22 ?_
      refine lv_goto (tgt := 29) hx hb dX4_turn_25 (by decide) ?_
      exact k_iret (v := nI (a.1 12)) hx hb hr hlk rfl () ((if_neg (fun h => h.elim c_9 (fun h => by omega))).symm) hP hD hS dX4_turn_29
set_option maxHeartbeats 4000000 in
set_option maxRecDepth 100000 in
theorem c_X4_fill (l : Launch) (D : va_G) (cI cZ : ClassId) (q : Nat → Nat) (a : AS) (hd th : Nat) (rg cm co : Nat → Int32) (hI : AI a) : kMi l yX4_fill wsX4_fill 2 42 D (TY cI cZ) [.ref (q 50)] [(q 50, .inr (4, [.int (nI (a.1 0)), .int (nI (a.1 1)), .int (nI (a.1 2)), .int (nI (a.1 3)), .ref (q 54), .ref (q 55), .int (nI hd), .int (nI (a.1 4)), .int (nI (a.1 5)), .int (nI (a.1 6)), .int (nI (a.1 7)), .ref (q 61), .ref (q 62), .ref (q 63), .int (nI (a.1 8)), .ref (q 65), .ref (q 66), .int (nI (a.1 9)), .int (nI (a.1 10)), .int (nI (a.1 11)), .int (nI (a.1 12)), .int (nI th)])), (q 54, .inl (cI, 32, .inl rg)), (q 55, .inl (cI, 32, .inl cm)), (q 61, .inl (cZ, 300, .inl (a.2 2))), (q 62, .inl (cZ, 300, .inl (a.2 3))), (q 63, .inl (cI, 300, .inl (a.2 4))), (q 65, .inl (cI, 100, .inl (a.2 5))), (q 66, .inl (cZ, 100, .inl co))] (fun (r : Int32) (_ : Unit) => r = nI (a_fill a)) (fun (_ : Unit) => MW cI cZ q a hd rg cm 0 co) := by
  obtain ⟨⟨i0, i4, i5, i7, i9, i10, i11, i12⟩, ⟨i1, i2, i3⟩, ⟨i8, i13, i14⟩, iQ, iH0, iH1, iW0, iW1, iN⟩ := id hI
  intro sz
  refine k_in (Qc := fun A => va_Qi (fun (r : Int32) (_ : Unit) => r = nI (a_fill a)) (kB D A (fun (_ : Unit) => MW cI cZ q a hd rg cm 0 co)) A) (cc := cX4_fill) (maxL := 1) (ret := (some .int)) (by decide) rfl (Nat.le_of_ble_eq_true rfl) ?_
  intro p e s m below meth c A ls hfix hr hlk hN hP hK hD hA hS hl
  have hfix : CallFix p m c cX4_fill 1 s [.ref (q 50)].toArray wsX4_fill RX4 := hfix
  have hl : lv_has ls 1 [(0, .ref (q 50))] := hl
  obtain ⟨hx, hb, hml, hown, hts⟩ := id hfix
  have hinX4 : ∀ w ∈ wsX40, w ∈ wsX4_fill := fun _ h => List.mem_cons_of_mem _ (List.mem_append_right _ h)
  have hP : va_P D vwCl [(q 50, .inr (4, [.int (nI (a.1 0)), .int (nI (a.1 1)), .int (nI (a.1 2)), .int (nI (a.1 3)), .ref (q 54), .ref (q 55), .int (nI hd), .int (nI (a.1 4)), .int (nI (a.1 5)), .int (nI (a.1 6)), .int (nI (a.1 7)), .ref (q 61), .ref (q 62), .ref (q 63), .int (nI (a.1 8)), .ref (q 65), .ref (q 66), .int (nI (a.1 9)), .int (nI (a.1 10)), .int (nI (a.1 11)), .int (nI (a.1 12)), .int (nI th)])), (q 54, .inl (cI, 32, .inl rg)), (q 55, .inl (cI, 32, .inl cm)), (q 61, .inl (cZ, 300, .inl (a.2 2))), (q 62, .inl (cZ, 300, .inl (a.2 3))), (q 63, .inl (cI, 300, .inl (a.2 4))), (q 65, .inl (cI, 100, .inl (a.2 5))), (q 66, .inl (cZ, 100, .inl co))] s.heap := hP
  have hD : va_D A [(q 50, .inr (4, [.int (nI (a.1 0)), .int (nI (a.1 1)), .int (nI (a.1 2)), .int (nI (a.1 3)), .ref (q 54), .ref (q 55), .int (nI hd), .int (nI (a.1 4)), .int (nI (a.1 5)), .int (nI (a.1 6)), .int (nI (a.1 7)), .ref (q 61), .ref (q 62), .ref (q 63), .int (nI (a.1 8)), .ref (q 65), .ref (q 66), .int (nI (a.1 9)), .int (nI (a.1 10)), .int (nI (a.1 11)), .int (nI (a.1 12)), .int (nI th)])), (q 54, .inl (cI, 32, .inl rg)), (q 55, .inl (cI, 32, .inl cm)), (q 61, .inl (cZ, 300, .inl (a.2 2))), (q 62, .inl (cZ, 300, .inl (a.2 3))), (q 63, .inl (cI, 300, .inl (a.2 4))), (q 65, .inl (cI, 100, .inl (a.2 5))), (q 66, .inl (cZ, 100, .inl co))] := hD
  have hS : ∃ (H : Heap) (locs : List Loc), H = s.heap ∧ locs = [] ∧ va_S A s.heap H locs := ⟨_, _, rfl, rfl, hS⟩
  obtain ⟨H, locs, hH, hlocs, hS⟩ := hS
  rw [← hH] at hP
  suffices hW9 : W p l e ({ frames := 2, cells := 0, slots := 0, locals := 42 } : Room) s m [.ref (q 50)].toArray below meth c H locs 0 0 (MQ below (va_Qi (fun (r : Int32) (_ : Unit) => r = nI (a_fill a)) (kB D A (fun (_ : Unit) => MW cI cZ q a hd rg cm 0 co)) A) [.ref (q 50)].toArray s 0 0 A) (F0 m 0 ls []) by rw [hH, hlocs] at hW9; exact hW9
  clear hH hlocs
  refine lv_aload_n hx hb dX4_fill_0 rfl (lv_at hl 0 rfl) ?_
  refine lv_iconst (v := nI 0) hx hb dX4_fill_1 (by decide) ?_
  refine va_put (D := D) (ci := 4) (v := .int (nI 0)) (ty := .int) (C := RX4) (T := TX4) (N := 22) hx hb hts hinX4 tyX4 tyX4_ok nmX4 hown hK hP hD hS 0 rfl rfl 21 (by decide) (hts _ (List.mem_of_getElem? (i := 1) rfl)) (fun _ h9 => h9) rfl (by decide +kernel) rfl rfl (Nat.le_of_ble_eq_true rfl) dX4_fill_2 (fun H locs hP hD hS => ?_)
  have hP : va_P D vwCl [(q 50, .inr (4, [.int (nI (a.1 0)), .int (nI (a.1 1)), .int (nI (a.1 2)), .int (nI (a.1 3)), .ref (q 54), .ref (q 55), .int (nI hd), .int (nI (a.1 4)), .int (nI (a.1 5)), .int (nI (a.1 6)), .int (nI (a.1 7)), .ref (q 61), .ref (q 62), .ref (q 63), .int (nI (a.1 8)), .ref (q 65), .ref (q 66), .int (nI (a.1 9)), .int (nI (a.1 10)), .int (nI (a.1 11)), .int (nI (a.1 12)), .int (nI 0)])), (q 54, .inl (cI, 32, .inl rg)), (q 55, .inl (cI, 32, .inl cm)), (q 61, .inl (cZ, 300, .inl (a.2 2))), (q 62, .inl (cZ, 300, .inl (a.2 3))), (q 63, .inl (cI, 300, .inl (a.2 4))), (q 65, .inl (cI, 100, .inl (a.2 5))), (q 66, .inl (cZ, 100, .inl co))] H := hP
  have hD : va_D A [(q 50, .inr (4, [.int (nI (a.1 0)), .int (nI (a.1 1)), .int (nI (a.1 2)), .int (nI (a.1 3)), .ref (q 54), .ref (q 55), .int (nI hd), .int (nI (a.1 4)), .int (nI (a.1 5)), .int (nI (a.1 6)), .int (nI (a.1 7)), .ref (q 61), .ref (q 62), .ref (q 63), .int (nI (a.1 8)), .ref (q 65), .ref (q 66), .int (nI (a.1 9)), .int (nI (a.1 10)), .int (nI (a.1 11)), .int (nI (a.1 12)), .int (nI 0)])), (q 54, .inl (cI, 32, .inl rg)), (q 55, .inl (cI, 32, .inl cm)), (q 61, .inl (cZ, 300, .inl (a.2 2))), (q 62, .inl (cZ, 300, .inl (a.2 3))), (q 63, .inl (cI, 300, .inl (a.2 4))), (q 65, .inl (cI, 100, .inl (a.2 5))), (q 66, .inl (cZ, 100, .inl co))] := hD
  refine lv_aload_n hx hb dX4_fill_5 rfl (lv_at hl 0 rfl) ?_
  refine k_callVi (n := 0) (wr := []) (As := []) (rest := []) hfix hN hK hP hD hS hA hl.1 (c_X4_fillNow l D cI cZ q a hd 0 rg cm co (by omega)) gX4_fill_X4_fillNow rfl (by decide +kernel) rfl ⟨Nat.le_of_ble_eq_true rfl, Nat.le_of_ble_eq_true rfl⟩ [0, 1, 2, 3, 4, 5, 6, 7] [] rfl rfl (by decide) (by decide) (by decide) 0 rfl rfl rfl (Nat.le_of_ble_eq_true rfl) ⟨Nat.zero_le _, Nat.zero_le _⟩ dX4_fill_6 (fun r_6 u H locs hw_6 hP hD hS => ?_)
  have hP : va_P D vwCl [(q 50, .inr (4, [.int (nI (a.1 0)), .int (nI (a.1 1)), .int (nI (a.1 2)), .int (nI (a.1 3)), .ref (q 54), .ref (q 55), .int (nI hd), .int (nI (a.1 4)), .int (nI (a.1 5)), .int (nI (a.1 6)), .int (nI (a.1 7)), .ref (q 61), .ref (q 62), .ref (q 63), .int (nI (a.1 8)), .ref (q 65), .ref (q 66), .int (nI (a.1 9)), .int (nI (a.1 10)), .int (nI (a.1 11)), .int (nI (a.1 12)), .int (nI 0)])), (q 54, .inl (cI, 32, .inl rg)), (q 55, .inl (cI, 32, .inl cm)), (q 61, .inl (cZ, 300, .inl (a.2 2))), (q 62, .inl (cZ, 300, .inl (a.2 3))), (q 63, .inl (cI, 300, .inl (a.2 4))), (q 65, .inl (cI, 100, .inl (a.2 5))), (q 66, .inl (cZ, 100, .inl co))] H := hP.sub [0, 1, 2, 3, 4, 5, 6, 7] rfl
  have hD : va_D A [(q 50, .inr (4, [.int (nI (a.1 0)), .int (nI (a.1 1)), .int (nI (a.1 2)), .int (nI (a.1 3)), .ref (q 54), .ref (q 55), .int (nI hd), .int (nI (a.1 4)), .int (nI (a.1 5)), .int (nI (a.1 6)), .int (nI (a.1 7)), .ref (q 61), .ref (q 62), .ref (q 63), .int (nI (a.1 8)), .ref (q 65), .ref (q 66), .int (nI (a.1 9)), .int (nI (a.1 10)), .int (nI (a.1 11)), .int (nI (a.1 12)), .int (nI 0)])), (q 54, .inl (cI, 32, .inl rg)), (q 55, .inl (cI, 32, .inl cm)), (q 61, .inl (cZ, 300, .inl (a.2 2))), (q 62, .inl (cZ, 300, .inl (a.2 3))), (q 63, .inl (cI, 300, .inl (a.2 4))), (q 65, .inl (cI, 100, .inl (a.2 5))), (q 66, .inl (cZ, 100, .inl co))] := hD.sub [0, 1, 2, 3, 4, 5, 6, 7] (by decide) rfl
  obtain rfl : r_6 = nI (a_fill a) := hw_6
  exact k_iret (v := nI (a_fill a)) hx hb hr hlk rfl () rfl hP hD hS dX4_fill_9
set_option maxHeartbeats 4000000 in
set_option maxRecDepth 100000 in
theorem c_X4_gap (l : Launch) (D : va_G) (cI cZ : ClassId) (q : Nat → Nat) (a : AS) (hd th : Nat) (rg cm co : Nat → Int32) (hI : AI a) : kMi l yX4_gap wsX4_gap 0 0 D (TY cI cZ) [.ref (q 50)] [(q 50, .inr (4, [.int (nI (a.1 0)), .int (nI (a.1 1)), .int (nI (a.1 2)), .int (nI (a.1 3)), .ref (q 54), .ref (q 55), .int (nI hd), .int (nI (a.1 4)), .int (nI (a.1 5)), .int (nI (a.1 6)), .int (nI (a.1 7)), .ref (q 61), .ref (q 62), .ref (q 63), .int (nI (a.1 8)), .ref (q 65), .ref (q 66), .int (nI (a.1 9)), .int (nI (a.1 10)), .int (nI (a.1 11)), .int (nI (a.1 12)), .int (nI th)])), (q 54, .inl (cI, 32, .inl rg)), (q 55, .inl (cI, 32, .inl cm)), (q 61, .inl (cZ, 300, .inl (a.2 2))), (q 62, .inl (cZ, 300, .inl (a.2 3))), (q 63, .inl (cI, 300, .inl (a.2 4))), (q 65, .inl (cI, 100, .inl (a.2 5))), (q 66, .inl (cZ, 100, .inl co))] (fun (r : Int32) (_ : Unit) => r = (if a.1 9 = 0 ∨ 100 ≤ a.1 11 then nI 0 else nI (a.1 12) - nI (a.1 10) - nI (10 * a.1 11))) (fun (_ : Unit) => MW cI cZ q a hd rg cm 0 co) := by
  obtain ⟨⟨i0, i4, i5, i7, i9, i10, i11, i12⟩, ⟨i1, i2, i3⟩, ⟨i8, i13, i14⟩, iQ, iH0, iH1, iW0, iW1, iN⟩ := id hI
  intro sz
  refine k_in (Qc := fun A => va_Qi (fun (r : Int32) (_ : Unit) => r = (if a.1 9 = 0 ∨ 100 ≤ a.1 11 then nI 0 else nI (a.1 12) - nI (a.1 10) - nI (10 * a.1 11))) (kB D A (fun (_ : Unit) => MW cI cZ q a hd rg cm 0 co)) A) (cc := cX4_gap) (maxL := 1) (ret := (some .int)) (by decide) rfl (Nat.le_of_ble_eq_true rfl) ?_
  intro p e s m below meth c A ls hfix hr hlk hN hP hK hD hA hS hl
  have hfix : CallFix p m c cX4_gap 1 s [.ref (q 50)].toArray wsX4_gap RX4 := hfix
  have hl : lv_has ls 1 [(0, .ref (q 50))] := hl
  obtain ⟨hx, hb, hml, hown, hts⟩ := id hfix
  have hinX4 : ∀ w ∈ wsX40, w ∈ wsX4_gap := fun _ h => List.mem_cons_of_mem _ (List.mem_append_right _ h)
  have hP : va_P D vwCl [(q 50, .inr (4, [.int (nI (a.1 0)), .int (nI (a.1 1)), .int (nI (a.1 2)), .int (nI (a.1 3)), .ref (q 54), .ref (q 55), .int (nI hd), .int (nI (a.1 4)), .int (nI (a.1 5)), .int (nI (a.1 6)), .int (nI (a.1 7)), .ref (q 61), .ref (q 62), .ref (q 63), .int (nI (a.1 8)), .ref (q 65), .ref (q 66), .int (nI (a.1 9)), .int (nI (a.1 10)), .int (nI (a.1 11)), .int (nI (a.1 12)), .int (nI th)])), (q 54, .inl (cI, 32, .inl rg)), (q 55, .inl (cI, 32, .inl cm)), (q 61, .inl (cZ, 300, .inl (a.2 2))), (q 62, .inl (cZ, 300, .inl (a.2 3))), (q 63, .inl (cI, 300, .inl (a.2 4))), (q 65, .inl (cI, 100, .inl (a.2 5))), (q 66, .inl (cZ, 100, .inl co))] s.heap := hP
  have hD : va_D A [(q 50, .inr (4, [.int (nI (a.1 0)), .int (nI (a.1 1)), .int (nI (a.1 2)), .int (nI (a.1 3)), .ref (q 54), .ref (q 55), .int (nI hd), .int (nI (a.1 4)), .int (nI (a.1 5)), .int (nI (a.1 6)), .int (nI (a.1 7)), .ref (q 61), .ref (q 62), .ref (q 63), .int (nI (a.1 8)), .ref (q 65), .ref (q 66), .int (nI (a.1 9)), .int (nI (a.1 10)), .int (nI (a.1 11)), .int (nI (a.1 12)), .int (nI th)])), (q 54, .inl (cI, 32, .inl rg)), (q 55, .inl (cI, 32, .inl cm)), (q 61, .inl (cZ, 300, .inl (a.2 2))), (q 62, .inl (cZ, 300, .inl (a.2 3))), (q 63, .inl (cI, 300, .inl (a.2 4))), (q 65, .inl (cI, 100, .inl (a.2 5))), (q 66, .inl (cZ, 100, .inl co))] := hD
  have hS : ∃ (H : Heap) (locs : List Loc), H = s.heap ∧ locs = [] ∧ va_S A s.heap H locs := ⟨_, _, rfl, rfl, hS⟩
  obtain ⟨H, locs, hH, hlocs, hS⟩ := hS
  rw [← hH] at hP
  suffices hW9 : W p l e ({ frames := 0, cells := 0, slots := 0, locals := 0 } : Room) s m [.ref (q 50)].toArray below meth c H locs 0 0 (MQ below (va_Qi (fun (r : Int32) (_ : Unit) => r = (if a.1 9 = 0 ∨ 100 ≤ a.1 11 then nI 0 else nI (a.1 12) - nI (a.1 10) - nI (10 * a.1 11))) (kB D A (fun (_ : Unit) => MW cI cZ q a hd rg cm 0 co)) A) [.ref (q 50)].toArray s 0 0 A) (F0 m 0 ls []) by rw [hH, hlocs] at hW9; exact hW9
  clear hH hlocs
  refine lv_aload_n hx hb dX4_gap_0 rfl (lv_at hl 0 rfl) ?_
  refine lv_iconst (v := nI 0) hx hb dX4_gap_1 (by decide) ?_
  refine va_put (D := D) (ci := 4) (v := .int (nI 0)) (ty := .int) (C := RX4) (T := TX4) (N := 22) hx hb hts hinX4 tyX4 tyX4_ok nmX4 hown hK hP hD hS 0 rfl rfl 21 (by decide) (hts _ (List.mem_of_getElem? (i := 1) rfl)) (fun _ h9 => h9) rfl (by decide +kernel) rfl rfl (Nat.le_of_ble_eq_true rfl) dX4_gap_2 (fun H locs hP hD hS => ?_)
  have hP : va_P D vwCl [(q 50, .inr (4, [.int (nI (a.1 0)), .int (nI (a.1 1)), .int (nI (a.1 2)), .int (nI (a.1 3)), .ref (q 54), .ref (q 55), .int (nI hd), .int (nI (a.1 4)), .int (nI (a.1 5)), .int (nI (a.1 6)), .int (nI (a.1 7)), .ref (q 61), .ref (q 62), .ref (q 63), .int (nI (a.1 8)), .ref (q 65), .ref (q 66), .int (nI (a.1 9)), .int (nI (a.1 10)), .int (nI (a.1 11)), .int (nI (a.1 12)), .int (nI 0)])), (q 54, .inl (cI, 32, .inl rg)), (q 55, .inl (cI, 32, .inl cm)), (q 61, .inl (cZ, 300, .inl (a.2 2))), (q 62, .inl (cZ, 300, .inl (a.2 3))), (q 63, .inl (cI, 300, .inl (a.2 4))), (q 65, .inl (cI, 100, .inl (a.2 5))), (q 66, .inl (cZ, 100, .inl co))] H := hP
  have hD : va_D A [(q 50, .inr (4, [.int (nI (a.1 0)), .int (nI (a.1 1)), .int (nI (a.1 2)), .int (nI (a.1 3)), .ref (q 54), .ref (q 55), .int (nI hd), .int (nI (a.1 4)), .int (nI (a.1 5)), .int (nI (a.1 6)), .int (nI (a.1 7)), .ref (q 61), .ref (q 62), .ref (q 63), .int (nI (a.1 8)), .ref (q 65), .ref (q 66), .int (nI (a.1 9)), .int (nI (a.1 10)), .int (nI (a.1 11)), .int (nI (a.1 12)), .int (nI 0)])), (q 54, .inl (cI, 32, .inl rg)), (q 55, .inl (cI, 32, .inl cm)), (q 61, .inl (cZ, 300, .inl (a.2 2))), (q 62, .inl (cZ, 300, .inl (a.2 3))), (q 63, .inl (cI, 300, .inl (a.2 4))), (q 65, .inl (cI, 100, .inl (a.2 5))), (q 66, .inl (cZ, 100, .inl co))] := hD
  refine lv_aload_n hx hb dX4_gap_5 rfl (lv_at hl 0 rfl) ?_
  refine va_get (D := D) (ci := 4) (v := .int (nI (a.1 9))) (C := RX4) (T := TX4) (N := 22) hx hb hts hinX4 hown hK hP 0 rfl rfl 17 (by decide) (hts _ (List.mem_of_getElem? (i := 2) rfl)) (fun _ h9 => h9) rfl dX4_gap_6 ?_
  refine k_if_eq (tgt := 41) hx hb (by omega) dX4_gap_9 (by decide) (fun c_9 => ?_) (fun c_9 => ?_)
  · -- c_9 taken
    refine lv_iconst (v := nI 0) hx hb dX4_gap_41 (by decide) ?_
    exact k_iret (v := nI 0) hx hb hr hlk rfl () ((if_pos (Or.inl c_9)).symm) hP hD hS dX4_gap_42
  · -- c_9 not taken
    refine lv_aload_n hx hb dX4_gap_12 rfl (lv_at hl 0 rfl) ?_
    refine va_get (D := D) (ci := 4) (v := .int (nI (a.1 11))) (C := RX4) (T := TX4) (N := 22) hx hb hts hinX4 hown hK hP 0 rfl rfl 19 (by decide) (hts _ (List.mem_of_getElem? (i := 3) rfl)) (fun _ h9 => h9) rfl dX4_gap_13 ?_
    refine lv_bipush (v := nI 100) hx hb dX4_gap_16 (by decide) ?_
    refine k_icmp_ge (tgt := 41) hx hb (by omega) (by omega) dX4_gap_18 (by decide) (fun c_18 => ?_) (fun c_18 => ?_)
    · -- c_18 taken
      refine lv_iconst (v := nI 0) hx hb dX4_gap_41 (by decide) ?_
      exact k_iret (v := nI 0) hx hb hr hlk rfl () ((if_pos (Or.inr c_18)).symm) hP hD hS dX4_gap_42
    · -- c_18 not taken
      refine lv_aload_n hx hb dX4_gap_21 rfl (lv_at hl 0 rfl) ?_
      refine va_get (D := D) (ci := 4) (v := .int (nI (a.1 12))) (C := RX4) (T := TX4) (N := 22) hx hb hts hinX4 hown hK hP 0 rfl rfl 20 (by decide) (hts _ (List.mem_of_getElem? (i := 4) rfl)) (fun _ h9 => h9) rfl dX4_gap_22 ?_
      refine lv_aload_n hx hb dX4_gap_25 rfl (lv_at hl 0 rfl) ?_
      refine va_get (D := D) (ci := 4) (v := .int (nI (a.1 10))) (C := RX4) (T := TX4) (N := 22) hx hb hts hinX4 hown hK hP 0 rfl rfl 18 (by decide) (hts _ (List.mem_of_getElem? (i := 5) rfl)) (fun _ h9 => h9) rfl dX4_gap_26 ?_
      refine lv_isub hx hb dX4_gap_29 ?_
      refine lv_bipush (v := nI 10) hx hb dX4_gap_30 (by decide) ?_
      refine lv_aload_n hx hb dX4_gap_32 rfl (lv_at hl 0 rfl) ?_
      refine va_get (D := D) (ci := 4) (v := .int (nI (a.1 11))) (C := RX4) (T := TX4) (N := 22) hx hb hts hinX4 hown hK hP 0 rfl rfl 19 (by decide) (hts _ (List.mem_of_getElem? (i := 3) rfl)) (fun _ h9 => h9) rfl dX4_gap_33 ?_
      refine k_imul hx hb dX4_gap_36 ?_
      refine lv_isub hx hb dX4_gap_37 ?_
      refine lv_goto (tgt := 42) hx hb dX4_gap_38 (by decide) ?_
      exact k_iret (v := ((nI (a.1 12) - nI (a.1 10)) - nI (10 * (a.1 11)))) hx hb hr hlk rfl () ((if_neg (fun h => h.elim c_9 (fun h => by omega))).symm) hP hD hS dX4_gap_42
set_option maxHeartbeats 4000000 in
set_option maxRecDepth 100000 in
theorem c_X4_reset (l : Launch) (D : va_G) (cI cZ : ClassId) (q : Nat → Nat) (a : AS) (hd th : Nat) (rg cm co : Nat → Int32) : kMi l yX4_reset wsX4_reset 0 0 D (TY cI cZ) [.ref (q 50)] [(q 50, .inr (4, [.int (nI (a.1 0)), .int (nI (a.1 1)), .int (nI (a.1 2)), .int (nI (a.1 3)), .ref (q 54), .ref (q 55), .int (nI hd), .int (nI (a.1 4)), .int (nI (a.1 5)), .int (nI (a.1 6)), .int (nI (a.1 7)), .ref (q 61), .ref (q 62), .ref (q 63), .int (nI (a.1 8)), .ref (q 65), .ref (q 66), .int (nI (a.1 9)), .int (nI (a.1 10)), .int (nI (a.1 11)), .int (nI (a.1 12)), .int (nI th)])), (q 54, .inl (cI, 32, .inl rg)), (q 55, .inl (cI, 32, .inl cm)), (q 61, .inl (cZ, 300, .inl (a.2 2))), (q 62, .inl (cZ, 300, .inl (a.2 3))), (q 63, .inl (cI, 300, .inl (a.2 4))), (q 65, .inl (cI, 100, .inl (a.2 5))), (q 66, .inl (cZ, 100, .inl co))] (fun (r : Int32) (_ : Unit) => r = nI (a.1 4)) (fun (_ : Unit) => MW cI cZ q (a_reset a) hd rg cm 0 co) := by
  intro sz
  refine k_in (Qc := fun A => va_Qi (fun (r : Int32) (_ : Unit) => r = nI (a.1 4)) (kB D A (fun (_ : Unit) => MW cI cZ q (a_reset a) hd rg cm 0 co)) A) (cc := cX4_reset) (maxL := 2) (ret := (some .int)) (by decide) rfl (Nat.le_of_ble_eq_true rfl) ?_
  intro p e s m below meth c A ls hfix hr hlk hN hP hK hD hA hS hl
  have hfix : CallFix p m c cX4_reset 2 s [.ref (q 50)].toArray wsX4_reset RX4 := hfix
  have hl : lv_has ls 2 [(0, .ref (q 50))] := hl
  obtain ⟨hx, hb, hml, hown, hts⟩ := id hfix
  have hinX4 : ∀ w ∈ wsX40, w ∈ wsX4_reset := fun _ h => List.mem_cons_of_mem _ (List.mem_append_right _ h)
  have hP : va_P D vwCl [(q 50, .inr (4, [.int (nI (a.1 0)), .int (nI (a.1 1)), .int (nI (a.1 2)), .int (nI (a.1 3)), .ref (q 54), .ref (q 55), .int (nI hd), .int (nI (a.1 4)), .int (nI (a.1 5)), .int (nI (a.1 6)), .int (nI (a.1 7)), .ref (q 61), .ref (q 62), .ref (q 63), .int (nI (a.1 8)), .ref (q 65), .ref (q 66), .int (nI (a.1 9)), .int (nI (a.1 10)), .int (nI (a.1 11)), .int (nI (a.1 12)), .int (nI th)])), (q 54, .inl (cI, 32, .inl rg)), (q 55, .inl (cI, 32, .inl cm)), (q 61, .inl (cZ, 300, .inl (a.2 2))), (q 62, .inl (cZ, 300, .inl (a.2 3))), (q 63, .inl (cI, 300, .inl (a.2 4))), (q 65, .inl (cI, 100, .inl (a.2 5))), (q 66, .inl (cZ, 100, .inl co))] s.heap := hP
  have hD : va_D A [(q 50, .inr (4, [.int (nI (a.1 0)), .int (nI (a.1 1)), .int (nI (a.1 2)), .int (nI (a.1 3)), .ref (q 54), .ref (q 55), .int (nI hd), .int (nI (a.1 4)), .int (nI (a.1 5)), .int (nI (a.1 6)), .int (nI (a.1 7)), .ref (q 61), .ref (q 62), .ref (q 63), .int (nI (a.1 8)), .ref (q 65), .ref (q 66), .int (nI (a.1 9)), .int (nI (a.1 10)), .int (nI (a.1 11)), .int (nI (a.1 12)), .int (nI th)])), (q 54, .inl (cI, 32, .inl rg)), (q 55, .inl (cI, 32, .inl cm)), (q 61, .inl (cZ, 300, .inl (a.2 2))), (q 62, .inl (cZ, 300, .inl (a.2 3))), (q 63, .inl (cI, 300, .inl (a.2 4))), (q 65, .inl (cI, 100, .inl (a.2 5))), (q 66, .inl (cZ, 100, .inl co))] := hD
  have hS : ∃ (H : Heap) (locs : List Loc), H = s.heap ∧ locs = [] ∧ va_S A s.heap H locs := ⟨_, _, rfl, rfl, hS⟩
  obtain ⟨H, locs, hH, hlocs, hS⟩ := hS
  rw [← hH] at hP
  suffices hW9 : W p l e ({ frames := 0, cells := 0, slots := 0, locals := 0 } : Room) s m [.ref (q 50)].toArray below meth c H locs 0 0 (MQ below (va_Qi (fun (r : Int32) (_ : Unit) => r = nI (a.1 4)) (kB D A (fun (_ : Unit) => MW cI cZ q (a_reset a) hd rg cm 0 co)) A) [.ref (q 50)].toArray s 0 0 A) (F0 m 0 ls []) by rw [hH, hlocs] at hW9; exact hW9
  clear hH hlocs
  refine lv_aload_n hx hb dX4_reset_0 rfl (lv_at hl 0 rfl) ?_
  refine lv_iconst (v := nI 0) hx hb dX4_reset_1 (by decide) ?_
  refine va_put (D := D) (ci := 4) (v := .int (nI 0)) (ty := .int) (C := RX4) (T := TX4) (N := 22) hx hb hts hinX4 tyX4 tyX4_ok nmX4 hown hK hP hD hS 0 rfl rfl 21 (by decide) (hts _ (List.mem_of_getElem? (i := 1) rfl)) (fun _ h9 => h9) rfl (by decide +kernel) rfl rfl (Nat.le_of_ble_eq_true rfl) dX4_reset_2 (fun H locs hP hD hS => ?_)
  have hP : va_P D vwCl [(q 50, .inr (4, [.int (nI (a.1 0)), .int (nI (a.1 1)), .int (nI (a.1 2)), .int (nI (a.1 3)), .ref (q 54), .ref (q 55), .int (nI hd), .int (nI (a.1 4)), .int (nI (a.1 5)), .int (nI (a.1 6)), .int (nI (a.1 7)), .ref (q 61), .ref (q 62), .ref (q 63), .int (nI (a.1 8)), .ref (q 65), .ref (q 66), .int (nI (a.1 9)), .int (nI (a.1 10)), .int (nI (a.1 11)), .int (nI (a.1 12)), .int (nI 0)])), (q 54, .inl (cI, 32, .inl rg)), (q 55, .inl (cI, 32, .inl cm)), (q 61, .inl (cZ, 300, .inl (a.2 2))), (q 62, .inl (cZ, 300, .inl (a.2 3))), (q 63, .inl (cI, 300, .inl (a.2 4))), (q 65, .inl (cI, 100, .inl (a.2 5))), (q 66, .inl (cZ, 100, .inl co))] H := hP
  have hD : va_D A [(q 50, .inr (4, [.int (nI (a.1 0)), .int (nI (a.1 1)), .int (nI (a.1 2)), .int (nI (a.1 3)), .ref (q 54), .ref (q 55), .int (nI hd), .int (nI (a.1 4)), .int (nI (a.1 5)), .int (nI (a.1 6)), .int (nI (a.1 7)), .ref (q 61), .ref (q 62), .ref (q 63), .int (nI (a.1 8)), .ref (q 65), .ref (q 66), .int (nI (a.1 9)), .int (nI (a.1 10)), .int (nI (a.1 11)), .int (nI (a.1 12)), .int (nI 0)])), (q 54, .inl (cI, 32, .inl rg)), (q 55, .inl (cI, 32, .inl cm)), (q 61, .inl (cZ, 300, .inl (a.2 2))), (q 62, .inl (cZ, 300, .inl (a.2 3))), (q 63, .inl (cI, 300, .inl (a.2 4))), (q 65, .inl (cI, 100, .inl (a.2 5))), (q 66, .inl (cZ, 100, .inl co))] := hD
  refine lv_aload_n hx hb dX4_reset_5 rfl (lv_at hl 0 rfl) ?_
  refine va_get (D := D) (ci := 4) (v := .int (nI (a.1 4))) (C := RX4) (T := TX4) (N := 22) hx hb hts hinX4 hown hK hP 0 rfl rfl 7 (by decide) (hts _ (List.mem_of_getElem? (i := 2) rfl)) (fun _ h9 => h9) rfl dX4_reset_6 ?_
  refine lv_istore_n (lv' := [(1, .int (nI (a.1 4))), (0, .ref (q 50))]) hx hb dX4_reset_9 rfl hl (by decide) rfl (fun ls hl => ?_)
  refine lv_aload_n hx hb dX4_reset_10 rfl (lv_at hl 1 rfl) ?_
  refine lv_dup hx hb dX4_reset_11 rfl ?_
  refine va_get (D := D) (ci := 4) (v := .int (nI (a.1 6))) (C := RX4) (T := TX4) (N := 22) hx hb hts hinX4 hown hK hP 0 rfl rfl 9 (by decide) (hts _ (List.mem_of_getElem? (i := 3) rfl)) (fun _ h9 => h9) rfl dX4_reset_12 ?_
  refine lv_iload_n hx hb dX4_reset_15 rfl (lv_at hl 0 rfl) ?_
  refine k_iadd hx hb dX4_reset_16 ?_
  refine va_put (D := D) (ci := 4) (v := .int (nI ((a.1 6) + (a.1 4)))) (ty := .int) (C := RX4) (T := TX4) (N := 22) hx hb hts hinX4 tyX4 tyX4_ok nmX4 hown hK hP hD hS 0 rfl rfl 9 (by decide) (hts _ (List.mem_of_getElem? (i := 3) rfl)) (fun _ h9 => h9) rfl (by decide +kernel) rfl rfl (Nat.le_of_ble_eq_true rfl) dX4_reset_17 (fun H locs hP hD hS => ?_)
  have hP : va_P D vwCl [(q 50, .inr (4, [.int (nI (a.1 0)), .int (nI (a.1 1)), .int (nI (a.1 2)), .int (nI (a.1 3)), .ref (q 54), .ref (q 55), .int (nI hd), .int (nI (a.1 4)), .int (nI (a.1 5)), .int (nI ((a.1 6) + (a.1 4))), .int (nI (a.1 7)), .ref (q 61), .ref (q 62), .ref (q 63), .int (nI (a.1 8)), .ref (q 65), .ref (q 66), .int (nI (a.1 9)), .int (nI (a.1 10)), .int (nI (a.1 11)), .int (nI (a.1 12)), .int (nI 0)])), (q 54, .inl (cI, 32, .inl rg)), (q 55, .inl (cI, 32, .inl cm)), (q 61, .inl (cZ, 300, .inl (a.2 2))), (q 62, .inl (cZ, 300, .inl (a.2 3))), (q 63, .inl (cI, 300, .inl (a.2 4))), (q 65, .inl (cI, 100, .inl (a.2 5))), (q 66, .inl (cZ, 100, .inl co))] H := hP
  have hD : va_D A [(q 50, .inr (4, [.int (nI (a.1 0)), .int (nI (a.1 1)), .int (nI (a.1 2)), .int (nI (a.1 3)), .ref (q 54), .ref (q 55), .int (nI hd), .int (nI (a.1 4)), .int (nI (a.1 5)), .int (nI ((a.1 6) + (a.1 4))), .int (nI (a.1 7)), .ref (q 61), .ref (q 62), .ref (q 63), .int (nI (a.1 8)), .ref (q 65), .ref (q 66), .int (nI (a.1 9)), .int (nI (a.1 10)), .int (nI (a.1 11)), .int (nI (a.1 12)), .int (nI 0)])), (q 54, .inl (cI, 32, .inl rg)), (q 55, .inl (cI, 32, .inl cm)), (q 61, .inl (cZ, 300, .inl (a.2 2))), (q 62, .inl (cZ, 300, .inl (a.2 3))), (q 63, .inl (cI, 300, .inl (a.2 4))), (q 65, .inl (cI, 100, .inl (a.2 5))), (q 66, .inl (cZ, 100, .inl co))] := hD
  refine lv_aload_n hx hb dX4_reset_20 rfl (lv_at hl 1 rfl) ?_
  refine lv_iconst (v := nI 0) hx hb dX4_reset_21 (by decide) ?_
  refine va_put (D := D) (ci := 4) (v := .int (nI 0)) (ty := .int) (C := RX4) (T := TX4) (N := 22) hx hb hts hinX4 tyX4 tyX4_ok nmX4 hown hK hP hD hS 0 rfl rfl 7 (by decide) (hts _ (List.mem_of_getElem? (i := 2) rfl)) (fun _ h9 => h9) rfl (by decide +kernel) rfl rfl (Nat.le_of_ble_eq_true rfl) dX4_reset_22 (fun H locs hP hD hS => ?_)
  have hP : va_P D vwCl [(q 50, .inr (4, [.int (nI (a.1 0)), .int (nI (a.1 1)), .int (nI (a.1 2)), .int (nI (a.1 3)), .ref (q 54), .ref (q 55), .int (nI hd), .int (nI 0), .int (nI (a.1 5)), .int (nI ((a.1 6) + (a.1 4))), .int (nI (a.1 7)), .ref (q 61), .ref (q 62), .ref (q 63), .int (nI (a.1 8)), .ref (q 65), .ref (q 66), .int (nI (a.1 9)), .int (nI (a.1 10)), .int (nI (a.1 11)), .int (nI (a.1 12)), .int (nI 0)])), (q 54, .inl (cI, 32, .inl rg)), (q 55, .inl (cI, 32, .inl cm)), (q 61, .inl (cZ, 300, .inl (a.2 2))), (q 62, .inl (cZ, 300, .inl (a.2 3))), (q 63, .inl (cI, 300, .inl (a.2 4))), (q 65, .inl (cI, 100, .inl (a.2 5))), (q 66, .inl (cZ, 100, .inl co))] H := hP
  have hD : va_D A [(q 50, .inr (4, [.int (nI (a.1 0)), .int (nI (a.1 1)), .int (nI (a.1 2)), .int (nI (a.1 3)), .ref (q 54), .ref (q 55), .int (nI hd), .int (nI 0), .int (nI (a.1 5)), .int (nI ((a.1 6) + (a.1 4))), .int (nI (a.1 7)), .ref (q 61), .ref (q 62), .ref (q 63), .int (nI (a.1 8)), .ref (q 65), .ref (q 66), .int (nI (a.1 9)), .int (nI (a.1 10)), .int (nI (a.1 11)), .int (nI (a.1 12)), .int (nI 0)])), (q 54, .inl (cI, 32, .inl rg)), (q 55, .inl (cI, 32, .inl cm)), (q 61, .inl (cZ, 300, .inl (a.2 2))), (q 62, .inl (cZ, 300, .inl (a.2 3))), (q 63, .inl (cI, 300, .inl (a.2 4))), (q 65, .inl (cI, 100, .inl (a.2 5))), (q 66, .inl (cZ, 100, .inl co))] := hD
  refine lv_aload_n hx hb dX4_reset_25 rfl (lv_at hl 1 rfl) ?_
  refine lv_iconst (v := nI 0) hx hb dX4_reset_26 (by decide) ?_
  refine va_put (D := D) (ci := 4) (v := .int (nI 0)) (ty := .boolean) (C := RX4) (T := TX4) (N := 22) hx hb hts hinX4 tyX4 tyX4_ok nmX4 hown hK hP hD hS 0 rfl rfl 8 (by decide) (hts _ (List.mem_of_getElem? (i := 4) rfl)) (fun _ h9 => h9) rfl (by decide +kernel) (by decide) rfl (Nat.le_of_ble_eq_true rfl) dX4_reset_27 (fun H locs hP hD hS => ?_)
  have hP : va_P D vwCl [(q 50, .inr (4, [.int (nI (a.1 0)), .int (nI (a.1 1)), .int (nI (a.1 2)), .int (nI (a.1 3)), .ref (q 54), .ref (q 55), .int (nI hd), .int (nI 0), .int (nI 0), .int (nI ((a.1 6) + (a.1 4))), .int (nI (a.1 7)), .ref (q 61), .ref (q 62), .ref (q 63), .int (nI (a.1 8)), .ref (q 65), .ref (q 66), .int (nI (a.1 9)), .int (nI (a.1 10)), .int (nI (a.1 11)), .int (nI (a.1 12)), .int (nI 0)])), (q 54, .inl (cI, 32, .inl rg)), (q 55, .inl (cI, 32, .inl cm)), (q 61, .inl (cZ, 300, .inl (a.2 2))), (q 62, .inl (cZ, 300, .inl (a.2 3))), (q 63, .inl (cI, 300, .inl (a.2 4))), (q 65, .inl (cI, 100, .inl (a.2 5))), (q 66, .inl (cZ, 100, .inl co))] H := hP
  have hD : va_D A [(q 50, .inr (4, [.int (nI (a.1 0)), .int (nI (a.1 1)), .int (nI (a.1 2)), .int (nI (a.1 3)), .ref (q 54), .ref (q 55), .int (nI hd), .int (nI 0), .int (nI 0), .int (nI ((a.1 6) + (a.1 4))), .int (nI (a.1 7)), .ref (q 61), .ref (q 62), .ref (q 63), .int (nI (a.1 8)), .ref (q 65), .ref (q 66), .int (nI (a.1 9)), .int (nI (a.1 10)), .int (nI (a.1 11)), .int (nI (a.1 12)), .int (nI 0)])), (q 54, .inl (cI, 32, .inl rg)), (q 55, .inl (cI, 32, .inl cm)), (q 61, .inl (cZ, 300, .inl (a.2 2))), (q 62, .inl (cZ, 300, .inl (a.2 3))), (q 63, .inl (cI, 300, .inl (a.2 4))), (q 65, .inl (cI, 100, .inl (a.2 5))), (q 66, .inl (cZ, 100, .inl co))] := hD
  refine lv_iload_n hx hb dX4_reset_30 rfl (lv_at hl 0 rfl) ?_
  exact k_iret (v := nI (a.1 4)) hx hb hr hlk rfl () rfl hP hD hS dX4_reset_31
set_option maxHeartbeats 4000000 in
set_option maxRecDepth 100000 in
theorem c_X4_shown (l : Launch) (D : va_G) (cI cZ : ClassId) (q : Nat → Nat) (a : AS) (hd th : Nat) (rg cm co : Nat → Int32) (hJ : AJ a) : kMi l yX4_shown wsX4_shown 0 0 D (TY cI cZ) [.ref (q 50)] [(q 50, .inr (4, [.int (nI (a.1 0)), .int (nI (a.1 1)), .int (nI (a.1 2)), .int (nI (a.1 3)), .ref (q 54), .ref (q 55), .int (nI hd), .int (nI (a.1 4)), .int (nI (a.1 5)), .int (nI (a.1 6)), .int (nI (a.1 7)), .ref (q 61), .ref (q 62), .ref (q 63), .int (nI (a.1 8)), .ref (q 65), .ref (q 66), .int (nI (a.1 9)), .int (nI (a.1 10)), .int (nI (a.1 11)), .int (nI (a.1 12)), .int (nI th)])), (q 54, .inl (cI, 32, .inl rg)), (q 55, .inl (cI, 32, .inl cm)), (q 61, .inl (cZ, 300, .inl (a.2 2))), (q 62, .inl (cZ, 300, .inl (a.2 3))), (q 63, .inl (cI, 300, .inl (a.2 4))), (q 65, .inl (cI, 100, .inl (a.2 5))), (q 66, .inl (cZ, 100, .inl co))] (fun (r : Int32) (_ : Unit) => r = nI (a.1 15)) (fun (_ : Unit) => MW cI cZ q a hd rg cm 0 co) := by
  intro sz
  refine k_in (Qc := fun A => va_Qi (fun (r : Int32) (_ : Unit) => r = nI (a.1 15)) (kB D A (fun (_ : Unit) => MW cI cZ q a hd rg cm 0 co)) A) (cc := cX4_shown) (maxL := 3) (ret := (some .int)) (by decide) rfl (Nat.le_of_ble_eq_true rfl) ?_
  intro p e s m below meth c A ls hfix hr hlk hN hP hK hD hA hS hl
  have hfix : CallFix p m c cX4_shown 3 s [.ref (q 50)].toArray wsX4_shown RX4 := hfix
  have hl : lv_has ls 3 [(0, .ref (q 50))] := hl
  obtain ⟨hx, hb, hml, hown, hts⟩ := id hfix
  have hinX4 : ∀ w ∈ wsX40, w ∈ wsX4_shown := fun _ h => List.mem_cons_of_mem _ (List.mem_append_right _ h)
  have hP : va_P D vwCl [(q 50, .inr (4, [.int (nI (a.1 0)), .int (nI (a.1 1)), .int (nI (a.1 2)), .int (nI (a.1 3)), .ref (q 54), .ref (q 55), .int (nI hd), .int (nI (a.1 4)), .int (nI (a.1 5)), .int (nI (a.1 6)), .int (nI (a.1 7)), .ref (q 61), .ref (q 62), .ref (q 63), .int (nI (a.1 8)), .ref (q 65), .ref (q 66), .int (nI (a.1 9)), .int (nI (a.1 10)), .int (nI (a.1 11)), .int (nI (a.1 12)), .int (nI th)])), (q 54, .inl (cI, 32, .inl rg)), (q 55, .inl (cI, 32, .inl cm)), (q 61, .inl (cZ, 300, .inl (a.2 2))), (q 62, .inl (cZ, 300, .inl (a.2 3))), (q 63, .inl (cI, 300, .inl (a.2 4))), (q 65, .inl (cI, 100, .inl (a.2 5))), (q 66, .inl (cZ, 100, .inl co))] s.heap := hP
  have hD : va_D A [(q 50, .inr (4, [.int (nI (a.1 0)), .int (nI (a.1 1)), .int (nI (a.1 2)), .int (nI (a.1 3)), .ref (q 54), .ref (q 55), .int (nI hd), .int (nI (a.1 4)), .int (nI (a.1 5)), .int (nI (a.1 6)), .int (nI (a.1 7)), .ref (q 61), .ref (q 62), .ref (q 63), .int (nI (a.1 8)), .ref (q 65), .ref (q 66), .int (nI (a.1 9)), .int (nI (a.1 10)), .int (nI (a.1 11)), .int (nI (a.1 12)), .int (nI th)])), (q 54, .inl (cI, 32, .inl rg)), (q 55, .inl (cI, 32, .inl cm)), (q 61, .inl (cZ, 300, .inl (a.2 2))), (q 62, .inl (cZ, 300, .inl (a.2 3))), (q 63, .inl (cI, 300, .inl (a.2 4))), (q 65, .inl (cI, 100, .inl (a.2 5))), (q 66, .inl (cZ, 100, .inl co))] := hD
  have hS : ∃ (H : Heap) (locs : List Loc), H = s.heap ∧ locs = [] ∧ va_S A s.heap H locs := ⟨_, _, rfl, rfl, hS⟩
  obtain ⟨H, locs, hH, hlocs, hS⟩ := hS
  rw [← hH] at hP
  suffices hW9 : W p l e ({ frames := 0, cells := 0, slots := 0, locals := 0 } : Room) s m [.ref (q 50)].toArray below meth c H locs 0 0 (MQ below (va_Qi (fun (r : Int32) (_ : Unit) => r = nI (a.1 15)) (kB D A (fun (_ : Unit) => MW cI cZ q a hd rg cm 0 co)) A) [.ref (q 50)].toArray s 0 0 A) (F0 m 0 ls []) by rw [hH, hlocs] at hW9; exact hW9
  clear hH hlocs
  have at9 : ∀ (n9 : Nat) (k : Nat) (m9 : Nat) (hf9 : (100 - k) < n9) (hk : k ≤ 100) (hm : m9 = cntS (a.2 5) k) (H : Heap) (locs : List Loc) (ls : Array Slot) (hP : va_P D vwCl [(q 50, .inr (4, [.int (nI (a.1 0)), .int (nI (a.1 1)), .int (nI (a.1 2)), .int (nI (a.1 3)), .ref (q 54), .ref (q 55), .int (nI hd), .int (nI (a.1 4)), .int (nI (a.1 5)), .int (nI (a.1 6)), .int (nI (a.1 7)), .ref (q 61), .ref (q 62), .ref (q 63), .int (nI (a.1 8)), .ref (q 65), .ref (q 66), .int (nI (a.1 9)), .int (nI (a.1 10)), .int (nI (a.1 11)), .int (nI (a.1 12)), .int (nI 0)])), (q 54, .inl (cI, 32, .inl rg)), (q 55, .inl (cI, 32, .inl cm)), (q 61, .inl (cZ, 300, .inl (a.2 2))), (q 62, .inl (cZ, 300, .inl (a.2 3))), (q 63, .inl (cI, 300, .inl (a.2 4))), (q 65, .inl (cI, 100, .inl (a.2 5))), (q 66, .inl (cZ, 100, .inl co))] H) (hD : va_D A [(q 50, .inr (4, [.int (nI (a.1 0)), .int (nI (a.1 1)), .int (nI (a.1 2)), .int (nI (a.1 3)), .ref (q 54), .ref (q 55), .int (nI hd), .int (nI (a.1 4)), .int (nI (a.1 5)), .int (nI (a.1 6)), .int (nI (a.1 7)), .ref (q 61), .ref (q 62), .ref (q 63), .int (nI (a.1 8)), .ref (q 65), .ref (q 66), .int (nI (a.1 9)), .int (nI (a.1 10)), .int (nI (a.1 11)), .int (nI (a.1 12)), .int (nI 0)])), (q 54, .inl (cI, 32, .inl rg)), (q 55, .inl (cI, 32, .inl cm)), (q 61, .inl (cZ, 300, .inl (a.2 2))), (q 62, .inl (cZ, 300, .inl (a.2 3))), (q 63, .inl (cI, 300, .inl (a.2 4))), (q 65, .inl (cI, 100, .inl (a.2 5))), (q 66, .inl (cZ, 100, .inl co))]) (hS : va_S A s.heap H locs) (hl : lv_has ls 3 [(0, .ref (q 50)), (1, .int (nI m9)), (2, .int (nI k))]), W p l e ({ frames := 0, cells := 0, slots := 0, locals := 0 } : Room) s m [.ref (q 50)].toArray below meth c H locs 0 0 (MQ below (va_Qi (fun (r : Int32) (_ : Unit) => r = nI (a.1 15)) (kB D A (fun (_ : Unit) => MW cI cZ q a hd rg cm 0 co)) A) [.ref (q 50)].toArray s 0 0 A) (F0 m 9 ls []) := by
    intro n9
    induction n9 with
    | zero => intro k m9 hf9 hk hm H locs ls hP hD hS hl; exact absurd hf9 (Nat.not_lt_zero _)
    | succ n9 ih9 =>
      intro k m9 hf9 hk hm H locs ls hP hD hS hl
      refine lv_iload_n hx hb dX4_shown_9 rfl (lv_at hl 2 rfl) ?_
      refine lv_bipush (v := nI 100) hx hb dX4_shown_10 (by decide) ?_
      refine k_icmp_ge (tgt := 39) hx hb (by omega) (by omega) dX4_shown_12 (by decide) (fun c_12 => ?_) (fun c_12 => ?_)
      · -- c_12 taken
        refine lv_iload_n hx hb dX4_shown_39 rfl (lv_at hl 1 rfl) ?_
        exact k_iret (v := nI m9) hx hb hr hlk rfl () (by rw [hm, show k = 100 by omega, hJ.1]) hP hD hS dX4_shown_40
      · -- c_12 not taken
        refine lv_iload_n hx hb dX4_shown_15 rfl (lv_at hl 1 rfl) ?_
        refine lv_aload_n hx hb dX4_shown_16 rfl (lv_at hl 0 rfl) ?_
        refine va_get (D := D) (ci := 4) (v := .ref (q 65)) (C := RX4) (T := TX4) (N := 22) hx hb hts hinX4 hown hK hP 0 rfl rfl 15 (by decide) (hts _ (List.mem_of_getElem? (i := 2) rfl)) (fun _ h9 => h9) rfl dX4_shown_17 ?_
        refine lv_iload_n hx hb dX4_shown_20 rfl (lv_at hl 2 rfl) ?_
        refine k_iald hx hb hK hP 6 0 rfl rfl (by omega) (Nat.le_of_ble_eq_true rfl) dX4_shown_21 ?_
        refine lv_iconst (v := nI 1) hx hb dX4_shown_22 (by decide) ?_
        refine lv_icmp_ne (tgt := 30) hx hb dX4_shown_23 (by decide) (fun c_23 => ?_) (fun c_23 => ?_)
        · -- c_23 taken
          refine lv_iconst (v := nI 0) hx hb dX4_shown_30 (by decide) ?_
          refine k_iadd hx hb dX4_shown_31 ?_
          refine lv_istore_n (lv' := [(1, .int (nI (m9 + 0))), (0, .ref (q 50)), (2, .int (nI k))]) hx hb dX4_shown_32 rfl hl (by decide) rfl (fun ls hl => ?_)
          refine lv_iinc (v := nI (k + 1)) (lv' := [(2, .int (nI (k + 1))), (1, .int (nI (m9 + 0))), (0, .ref (q 50))]) hx hb dX4_shown_33 hl (k := 2) rfl (nI_add k 1) (by decide) rfl (fun ls hl => ?_)
          refine lv_goto (tgt := 9) hx hb dX4_shown_36 (by decide) ?_
          exact ih9 (k + 1) (m9 + 0) (by omega) (by omega) (by rw [cntS, if_neg c_23, hm]; rfl) H locs ls hP hD hS (lv_sub hl [2, 1, 0] rfl)
        · -- c_23 not taken
          refine lv_iconst (v := nI 1) hx hb dX4_shown_26 (by decide) ?_
          refine lv_goto (tgt := 31) hx hb dX4_shown_27 (by decide) ?_
          refine k_iadd hx hb dX4_shown_31 ?_
          refine lv_istore_n (lv' := [(1, .int (nI (m9 + 1))), (0, .ref (q 50)), (2, .int (nI k))]) hx hb dX4_shown_32 rfl hl (by decide) rfl (fun ls hl => ?_)
          refine lv_iinc (v := nI (k + 1)) (lv' := [(2, .int (nI (k + 1))), (1, .int (nI (m9 + 1))), (0, .ref (q 50))]) hx hb dX4_shown_33 hl (k := 2) rfl (nI_add k 1) (by decide) rfl (fun ls hl => ?_)
          refine lv_goto (tgt := 9) hx hb dX4_shown_36 (by decide) ?_
          exact ih9 (k + 1) (m9 + 1) (by omega) (by omega) (by rw [cntS, if_pos c_23, hm]) H locs ls hP hD hS (lv_sub hl [2, 1, 0] rfl)
  refine lv_aload_n hx hb dX4_shown_0 rfl (lv_at hl 0 rfl) ?_
  refine lv_iconst (v := nI 0) hx hb dX4_shown_1 (by decide) ?_
  refine va_put (D := D) (ci := 4) (v := .int (nI 0)) (ty := .int) (C := RX4) (T := TX4) (N := 22) hx hb hts hinX4 tyX4 tyX4_ok nmX4 hown hK hP hD hS 0 rfl rfl 21 (by decide) (hts _ (List.mem_of_getElem? (i := 1) rfl)) (fun _ h9 => h9) rfl (by decide +kernel) rfl rfl (Nat.le_of_ble_eq_true rfl) dX4_shown_2 (fun H locs hP hD hS => ?_)
  have hP : va_P D vwCl [(q 50, .inr (4, [.int (nI (a.1 0)), .int (nI (a.1 1)), .int (nI (a.1 2)), .int (nI (a.1 3)), .ref (q 54), .ref (q 55), .int (nI hd), .int (nI (a.1 4)), .int (nI (a.1 5)), .int (nI (a.1 6)), .int (nI (a.1 7)), .ref (q 61), .ref (q 62), .ref (q 63), .int (nI (a.1 8)), .ref (q 65), .ref (q 66), .int (nI (a.1 9)), .int (nI (a.1 10)), .int (nI (a.1 11)), .int (nI (a.1 12)), .int (nI 0)])), (q 54, .inl (cI, 32, .inl rg)), (q 55, .inl (cI, 32, .inl cm)), (q 61, .inl (cZ, 300, .inl (a.2 2))), (q 62, .inl (cZ, 300, .inl (a.2 3))), (q 63, .inl (cI, 300, .inl (a.2 4))), (q 65, .inl (cI, 100, .inl (a.2 5))), (q 66, .inl (cZ, 100, .inl co))] H := hP
  have hD : va_D A [(q 50, .inr (4, [.int (nI (a.1 0)), .int (nI (a.1 1)), .int (nI (a.1 2)), .int (nI (a.1 3)), .ref (q 54), .ref (q 55), .int (nI hd), .int (nI (a.1 4)), .int (nI (a.1 5)), .int (nI (a.1 6)), .int (nI (a.1 7)), .ref (q 61), .ref (q 62), .ref (q 63), .int (nI (a.1 8)), .ref (q 65), .ref (q 66), .int (nI (a.1 9)), .int (nI (a.1 10)), .int (nI (a.1 11)), .int (nI (a.1 12)), .int (nI 0)])), (q 54, .inl (cI, 32, .inl rg)), (q 55, .inl (cI, 32, .inl cm)), (q 61, .inl (cZ, 300, .inl (a.2 2))), (q 62, .inl (cZ, 300, .inl (a.2 3))), (q 63, .inl (cI, 300, .inl (a.2 4))), (q 65, .inl (cI, 100, .inl (a.2 5))), (q 66, .inl (cZ, 100, .inl co))] := hD
  refine lv_iconst (v := nI 0) hx hb dX4_shown_5 (by decide) ?_
  refine lv_istore_n (lv' := [(1, .int (nI 0)), (0, .ref (q 50))]) hx hb dX4_shown_6 rfl hl (by decide) rfl (fun ls hl => ?_)
  refine lv_iconst (v := nI 0) hx hb dX4_shown_7 (by decide) ?_
  refine lv_istore_n (lv' := [(2, .int (nI 0)), (1, .int (nI 0)), (0, .ref (q 50))]) hx hb dX4_shown_8 rfl hl (by decide) rfl (fun ls hl => ?_)
  exact at9 _ 0 0 (Nat.lt_succ_self _) (by decide) rfl H locs ls hP hD hS (lv_sub hl [2, 1, 0] rfl)
set_option maxHeartbeats 4000000 in
set_option maxRecDepth 100000 in
theorem c_X4_couldBe (l : Launch) (D : va_G) (cI cZ : ClassId) (q : Nat → Nat) (a : AS) (hd th : Nat) (rg cm co : Nat → Int32) (i11 : a.1 11 ≤ 100) : kMi l yX4_couldBe wsX4_couldBe 2 41 D (TY cI cZ) [.ref (q 50)] [(q 50, .inr (4, [.int (nI (a.1 0)), .int (nI (a.1 1)), .int (nI (a.1 2)), .int (nI (a.1 3)), .ref (q 54), .ref (q 55), .int (nI hd), .int (nI (a.1 4)), .int (nI (a.1 5)), .int (nI (a.1 6)), .int (nI (a.1 7)), .ref (q 61), .ref (q 62), .ref (q 63), .int (nI (a.1 8)), .ref (q 65), .ref (q 66), .int (nI (a.1 9)), .int (nI (a.1 10)), .int (nI (a.1 11)), .int (nI (a.1 12)), .int (nI th)])), (q 54, .inl (cI, 32, .inl rg)), (q 55, .inl (cI, 32, .inl cm)), (q 61, .inl (cZ, 300, .inl (a.2 2))), (q 62, .inl (cZ, 300, .inl (a.2 3))), (q 63, .inl (cI, 300, .inl (a.2 4))), (q 65, .inl (cI, 100, .inl (a.2 5))), (q 66, .inl (cZ, 100, .inl co))] (fun (r : Int32) (u : (Nat → Int32)) => r = nI (cldN (a.2 2) (a.1 11))) (fun (u : (Nat → Int32)) => MW cI cZ q a hd rg cm 0 u) := by
  intro sz
  refine k_in (Qc := fun A => va_Qi (fun (r : Int32) (u : (Nat → Int32)) => r = nI (cldN (a.2 2) (a.1 11))) (kB D A (fun (u : (Nat → Int32)) => MW cI cZ q a hd rg cm 0 u)) A) (cc := cX4_couldBe) (maxL := 3) (ret := (some .int)) (by decide) rfl (Nat.le_of_ble_eq_true rfl) ?_
  intro p e s m below meth c A ls hfix hr hlk hN hP hK hD hA hS hl
  have hfix : CallFix p m c cX4_couldBe 3 s [.ref (q 50)].toArray wsX4_couldBe RX4 := hfix
  have hl : lv_has ls 3 [(0, .ref (q 50))] := hl
  obtain ⟨hx, hb, hml, hown, hts⟩ := id hfix
  have hinX4 : ∀ w ∈ wsX40, w ∈ wsX4_couldBe := fun _ h => List.mem_cons_of_mem _ (List.mem_append_right _ h)
  have hP : va_P D vwCl [(q 50, .inr (4, [.int (nI (a.1 0)), .int (nI (a.1 1)), .int (nI (a.1 2)), .int (nI (a.1 3)), .ref (q 54), .ref (q 55), .int (nI hd), .int (nI (a.1 4)), .int (nI (a.1 5)), .int (nI (a.1 6)), .int (nI (a.1 7)), .ref (q 61), .ref (q 62), .ref (q 63), .int (nI (a.1 8)), .ref (q 65), .ref (q 66), .int (nI (a.1 9)), .int (nI (a.1 10)), .int (nI (a.1 11)), .int (nI (a.1 12)), .int (nI th)])), (q 54, .inl (cI, 32, .inl rg)), (q 55, .inl (cI, 32, .inl cm)), (q 61, .inl (cZ, 300, .inl (a.2 2))), (q 62, .inl (cZ, 300, .inl (a.2 3))), (q 63, .inl (cI, 300, .inl (a.2 4))), (q 65, .inl (cI, 100, .inl (a.2 5))), (q 66, .inl (cZ, 100, .inl co))] s.heap := hP
  have hD : va_D A [(q 50, .inr (4, [.int (nI (a.1 0)), .int (nI (a.1 1)), .int (nI (a.1 2)), .int (nI (a.1 3)), .ref (q 54), .ref (q 55), .int (nI hd), .int (nI (a.1 4)), .int (nI (a.1 5)), .int (nI (a.1 6)), .int (nI (a.1 7)), .ref (q 61), .ref (q 62), .ref (q 63), .int (nI (a.1 8)), .ref (q 65), .ref (q 66), .int (nI (a.1 9)), .int (nI (a.1 10)), .int (nI (a.1 11)), .int (nI (a.1 12)), .int (nI th)])), (q 54, .inl (cI, 32, .inl rg)), (q 55, .inl (cI, 32, .inl cm)), (q 61, .inl (cZ, 300, .inl (a.2 2))), (q 62, .inl (cZ, 300, .inl (a.2 3))), (q 63, .inl (cI, 300, .inl (a.2 4))), (q 65, .inl (cI, 100, .inl (a.2 5))), (q 66, .inl (cZ, 100, .inl co))] := hD
  have hS : ∃ (H : Heap) (locs : List Loc), H = s.heap ∧ locs = [] ∧ va_S A s.heap H locs := ⟨_, _, rfl, rfl, hS⟩
  obtain ⟨H, locs, hH, hlocs, hS⟩ := hS
  rw [← hH] at hP
  suffices hW9 : W p l e ({ frames := 2, cells := 0, slots := 0, locals := 41 } : Room) s m [.ref (q 50)].toArray below meth c H locs 0 0 (MQ below (va_Qi (fun (r : Int32) (u : (Nat → Int32)) => r = nI (cldN (a.2 2) (a.1 11))) (kB D A (fun (u : (Nat → Int32)) => MW cI cZ q a hd rg cm 0 u)) A) [.ref (q 50)].toArray s 0 0 A) (F0 m 0 ls []) by rw [hH, hlocs] at hW9; exact hW9
  clear hH hlocs
  have at9 : ∀ (n9 : Nat) (k : Nat) (m9 : Nat) (co9 : Nat → Int32) (hf9 : (a.1 11 - k) < n9) (hk : k ≤ a.1 11) (hm : m9 = cldN (a.2 2) k) (hcc : ∀ j, j < k → co9 j = if cldB (a.2 2) j then nI 1 else nI 0) (H : Heap) (locs : List Loc) (ls : Array Slot) (hP : va_P D vwCl [(q 50, .inr (4, [.int (nI (a.1 0)), .int (nI (a.1 1)), .int (nI (a.1 2)), .int (nI (a.1 3)), .ref (q 54), .ref (q 55), .int (nI hd), .int (nI (a.1 4)), .int (nI (a.1 5)), .int (nI (a.1 6)), .int (nI (a.1 7)), .ref (q 61), .ref (q 62), .ref (q 63), .int (nI (a.1 8)), .ref (q 65), .ref (q 66), .int (nI (a.1 9)), .int (nI (a.1 10)), .int (nI (a.1 11)), .int (nI (a.1 12)), .int (nI 0)])), (q 54, .inl (cI, 32, .inl rg)), (q 55, .inl (cI, 32, .inl cm)), (q 61, .inl (cZ, 300, .inl (a.2 2))), (q 62, .inl (cZ, 300, .inl (a.2 3))), (q 63, .inl (cI, 300, .inl (a.2 4))), (q 65, .inl (cI, 100, .inl (a.2 5))), (q 66, .inl (cZ, 100, .inl co9))] H) (hD : va_D A [(q 50, .inr (4, [.int (nI (a.1 0)), .int (nI (a.1 1)), .int (nI (a.1 2)), .int (nI (a.1 3)), .ref (q 54), .ref (q 55), .int (nI hd), .int (nI (a.1 4)), .int (nI (a.1 5)), .int (nI (a.1 6)), .int (nI (a.1 7)), .ref (q 61), .ref (q 62), .ref (q 63), .int (nI (a.1 8)), .ref (q 65), .ref (q 66), .int (nI (a.1 9)), .int (nI (a.1 10)), .int (nI (a.1 11)), .int (nI (a.1 12)), .int (nI 0)])), (q 54, .inl (cI, 32, .inl rg)), (q 55, .inl (cI, 32, .inl cm)), (q 61, .inl (cZ, 300, .inl (a.2 2))), (q 62, .inl (cZ, 300, .inl (a.2 3))), (q 63, .inl (cI, 300, .inl (a.2 4))), (q 65, .inl (cI, 100, .inl (a.2 5))), (q 66, .inl (cZ, 100, .inl co9))]) (hS : va_S A s.heap H locs) (hl : lv_has ls 3 [(0, .ref (q 50)), (1, .int (nI m9)), (2, .int (nI k))]), W p l e ({ frames := 2, cells := 0, slots := 0, locals := 41 } : Room) s m [.ref (q 50)].toArray below meth c H locs 0 0 (MQ below (va_Qi (fun (r : Int32) (u : (Nat → Int32)) => r = nI (cldN (a.2 2) (a.1 11))) (kB D A (fun (u : (Nat → Int32)) => MW cI cZ q a hd rg cm 0 u)) A) [.ref (q 50)].toArray s 0 0 A) (F0 m 9 ls []) := by
    intro n9
    induction n9 with
    | zero => intro k m9 co9 hf9 hk hm hcc H locs ls hP hD hS hl; exact absurd hf9 (Nat.not_lt_zero _)
    | succ n9 ih9 =>
      intro k m9 co9 hf9 hk hm hcc H locs ls hP hD hS hl
      refine lv_iload_n hx hb dX4_couldBe_9 rfl (lv_at hl 2 rfl) ?_
      refine lv_aload_n hx hb dX4_couldBe_10 rfl (lv_at hl 0 rfl) ?_
      refine va_get (D := D) (ci := 4) (v := .int (nI (a.1 11))) (C := RX4) (T := TX4) (N := 22) hx hb hts hinX4 hown hK hP 0 rfl rfl 19 (by decide) (hts _ (List.mem_of_getElem? (i := 2) rfl)) (fun _ h9 => h9) rfl dX4_couldBe_11 ?_
      refine k_icmp_ge (tgt := 98) hx hb (by omega) (by omega) dX4_couldBe_14 (by decide) (fun c_14 => ?_) (fun c_14 => ?_)
      · -- c_14 taken
        refine lv_iload_n hx hb dX4_couldBe_98 rfl (lv_at hl 1 rfl) ?_
        exact k_iret (v := nI m9) hx hb hr hlk rfl co9 (by rw [hm, show k = a.1 11 by omega]) hP hD hS dX4_couldBe_99
      · -- c_14 not taken
        have at74 : ∀ (b9 : Nat) (hb9 : b9 = if cldB (a.2 2) k then 1 else 0) (H : Heap) (locs : List Loc) (ls : Array Slot) (hP : va_P D vwCl [(q 50, .inr (4, [.int (nI (a.1 0)), .int (nI (a.1 1)), .int (nI (a.1 2)), .int (nI (a.1 3)), .ref (q 54), .ref (q 55), .int (nI hd), .int (nI (a.1 4)), .int (nI (a.1 5)), .int (nI (a.1 6)), .int (nI (a.1 7)), .ref (q 61), .ref (q 62), .ref (q 63), .int (nI (a.1 8)), .ref (q 65), .ref (q 66), .int (nI (a.1 9)), .int (nI (a.1 10)), .int (nI (a.1 11)), .int (nI (a.1 12)), .int (nI 0)])), (q 54, .inl (cI, 32, .inl rg)), (q 55, .inl (cI, 32, .inl cm)), (q 61, .inl (cZ, 300, .inl (a.2 2))), (q 62, .inl (cZ, 300, .inl (a.2 3))), (q 63, .inl (cI, 300, .inl (a.2 4))), (q 65, .inl (cI, 100, .inl (a.2 5))), (q 66, .inl (cZ, 100, .inl co9))] H) (hD : va_D A [(q 50, .inr (4, [.int (nI (a.1 0)), .int (nI (a.1 1)), .int (nI (a.1 2)), .int (nI (a.1 3)), .ref (q 54), .ref (q 55), .int (nI hd), .int (nI (a.1 4)), .int (nI (a.1 5)), .int (nI (a.1 6)), .int (nI (a.1 7)), .ref (q 61), .ref (q 62), .ref (q 63), .int (nI (a.1 8)), .ref (q 65), .ref (q 66), .int (nI (a.1 9)), .int (nI (a.1 10)), .int (nI (a.1 11)), .int (nI (a.1 12)), .int (nI 0)])), (q 54, .inl (cI, 32, .inl rg)), (q 55, .inl (cI, 32, .inl cm)), (q 61, .inl (cZ, 300, .inl (a.2 2))), (q 62, .inl (cZ, 300, .inl (a.2 3))), (q 63, .inl (cI, 300, .inl (a.2 4))), (q 65, .inl (cI, 100, .inl (a.2 5))), (q 66, .inl (cZ, 100, .inl co9))]) (hS : va_S A s.heap H locs) (hl : lv_has ls 3 [(0, .ref (q 50)), (1, .int (nI m9)), (2, .int (nI k))]), W p l e ({ frames := 2, cells := 0, slots := 0, locals := 41 } : Room) s m [.ref (q 50)].toArray below meth c H locs 0 0 (MQ below (va_Qi (fun (r : Int32) (u : (Nat → Int32)) => r = nI (cldN (a.2 2) (a.1 11))) (kB D A (fun (u : (Nat → Int32)) => MW cI cZ q a hd rg cm 0 u)) A) [.ref (q 50)].toArray s 0 0 A) (F0 m 74 ls [.int (nI b9), .int (nI k), .ref (q 66)]) := by
          intro b9 hb9 H locs ls hP hD hS hl
          refine k_zast hx hb hK hP hD hS 7 1 rfl rfl (by omega) (Nat.le_of_ble_eq_true rfl) (by rcases (b01 hb9).2.2 with h | h <;> rw [h] <;> decide) dX4_couldBe_74 (fun H locs hP hD hS => ?_)
          have hP : va_P D vwCl [(q 50, .inr (4, [.int (nI (a.1 0)), .int (nI (a.1 1)), .int (nI (a.1 2)), .int (nI (a.1 3)), .ref (q 54), .ref (q 55), .int (nI hd), .int (nI (a.1 4)), .int (nI (a.1 5)), .int (nI (a.1 6)), .int (nI (a.1 7)), .ref (q 61), .ref (q 62), .ref (q 63), .int (nI (a.1 8)), .ref (q 65), .ref (q 66), .int (nI (a.1 9)), .int (nI (a.1 10)), .int (nI (a.1 11)), .int (nI (a.1 12)), .int (nI 0)])), (q 54, .inl (cI, 32, .inl rg)), (q 55, .inl (cI, 32, .inl cm)), (q 61, .inl (cZ, 300, .inl (a.2 2))), (q 62, .inl (cZ, 300, .inl (a.2 3))), (q 63, .inl (cI, 300, .inl (a.2 4))), (q 65, .inl (cI, 100, .inl (a.2 5))), (q 66, .inl (cZ, 100, .inl (upd co9 k (nI b9))))] H := hP
          have hD : va_D A [(q 50, .inr (4, [.int (nI (a.1 0)), .int (nI (a.1 1)), .int (nI (a.1 2)), .int (nI (a.1 3)), .ref (q 54), .ref (q 55), .int (nI hd), .int (nI (a.1 4)), .int (nI (a.1 5)), .int (nI (a.1 6)), .int (nI (a.1 7)), .ref (q 61), .ref (q 62), .ref (q 63), .int (nI (a.1 8)), .ref (q 65), .ref (q 66), .int (nI (a.1 9)), .int (nI (a.1 10)), .int (nI (a.1 11)), .int (nI (a.1 12)), .int (nI 0)])), (q 54, .inl (cI, 32, .inl rg)), (q 55, .inl (cI, 32, .inl cm)), (q 61, .inl (cZ, 300, .inl (a.2 2))), (q 62, .inl (cZ, 300, .inl (a.2 3))), (q 63, .inl (cI, 300, .inl (a.2 4))), (q 65, .inl (cI, 100, .inl (a.2 5))), (q 66, .inl (cZ, 100, .inl (upd co9 k (nI b9))))] := hD
          refine lv_iload_n hx hb dX4_couldBe_75 rfl (lv_at hl 1 rfl) ?_
          refine lv_aload_n hx hb dX4_couldBe_76 rfl (lv_at hl 0 rfl) ?_
          refine va_get (D := D) (ci := 4) (v := .ref (q 66)) (C := RX4) (T := TX4) (N := 22) hx hb hts hinX4 hown hK hP 0 rfl rfl 16 (by decide) (hts _ (List.mem_of_getElem? (i := 3) rfl)) (fun _ h9 => h9) rfl dX4_couldBe_77 ?_
          refine lv_iload_n hx hb dX4_couldBe_80 rfl (lv_at hl 2 rfl) ?_
          refine k_zald hx hb hK hP 7 1 rfl rfl (by omega) (Nat.le_of_ble_eq_true rfl) dX4_couldBe_81 ?_
          refine lv_if_eq (tgt := 89) hx hb dX4_couldBe_82 (by decide) (fun c_82 => ?_) (fun c_82 => ?_)
          · -- c_82 taken
            refine lv_iconst (v := nI 0) hx hb dX4_couldBe_89 (by decide) ?_
            refine k_iadd hx hb dX4_couldBe_90 ?_
            refine lv_istore_n (lv' := [(1, .int (nI (m9 + 0))), (0, .ref (q 50)), (2, .int (nI k))]) hx hb dX4_couldBe_91 rfl hl (by decide) rfl (fun ls hl => ?_)
            refine lv_iinc (v := nI (k + 1)) (lv' := [(2, .int (nI (k + 1))), (1, .int (nI (m9 + 0))), (0, .ref (q 50))]) hx hb dX4_couldBe_92 hl (k := 2) rfl (nI_add k 1) (by decide) rfl (fun ls hl => ?_)
            refine lv_goto (tgt := 9) hx hb dX4_couldBe_95 (by decide) ?_
            have hv9 : upd co9 k (nI b9) k = nI b9 := upd_s
            exact ih9 (k + 1) (m9 + 0) (upd co9 k (nI b9)) (by omega) (by omega) (by rw [cldN, if_neg ((b01 hb9).2.1 (by rcases (b01 hb9).2.2 with z | z; exact z; exact absurd (by rw [hv9, z] at c_82; exact c_82) nI1_ne)), hm]; rfl) (lt_s (fun j hj => (upd_n (by omega)).trans (hcc j hj)) (by rw [hv9, hb9]; split <;> rfl)) H locs ls hP hD hS (lv_sub hl [2, 1, 0] rfl)
          · -- c_82 not taken
            refine lv_iconst (v := nI 1) hx hb dX4_couldBe_85 (by decide) ?_
            refine lv_goto (tgt := 90) hx hb dX4_couldBe_86 (by decide) ?_
            refine k_iadd hx hb dX4_couldBe_90 ?_
            refine lv_istore_n (lv' := [(1, .int (nI (m9 + 1))), (0, .ref (q 50)), (2, .int (nI k))]) hx hb dX4_couldBe_91 rfl hl (by decide) rfl (fun ls hl => ?_)
            refine lv_iinc (v := nI (k + 1)) (lv' := [(2, .int (nI (k + 1))), (1, .int (nI (m9 + 1))), (0, .ref (q 50))]) hx hb dX4_couldBe_92 hl (k := 2) rfl (nI_add k 1) (by decide) rfl (fun ls hl => ?_)
            refine lv_goto (tgt := 9) hx hb dX4_couldBe_95 (by decide) ?_
            have hv9 : upd co9 k (nI b9) k = nI b9 := upd_s
            exact ih9 (k + 1) (m9 + 1) (upd co9 k (nI b9)) (by omega) (by omega) (by rw [cldN, if_pos ((b01 hb9).1 (fun z => c_82 (by rw [hv9, z]; rfl))), hm]) (lt_s (fun j hj => (upd_n (by omega)).trans (hcc j hj)) (by rw [hv9, hb9]; split <;> rfl)) H locs ls hP hD hS (lv_sub hl [2, 1, 0] rfl)
        refine lv_aload_n hx hb dX4_couldBe_17 rfl (lv_at hl 0 rfl) ?_
        refine va_get (D := D) (ci := 4) (v := .ref (q 66)) (C := RX4) (T := TX4) (N := 22) hx hb hts hinX4 hown hK hP 0 rfl rfl 16 (by decide) (hts _ (List.mem_of_getElem? (i := 3) rfl)) (fun _ h9 => h9) rfl dX4_couldBe_18 ?_
        refine lv_iload_n hx hb dX4_couldBe_21 rfl (lv_at hl 2 rfl) ?_
        refine lv_aload_n hx hb dX4_couldBe_22 rfl (lv_at hl 0 rfl) ?_
        refine lv_iload_n hx hb dX4_couldBe_23 rfl (lv_at hl 2 rfl) ?_
        refine k_callVi (n := 1) (wr := []) (As := [.int (nI k)]) (rest := [.int (nI k), .ref (q 66)]) hfix hN hK hP hD hS hA hl.1 (c_X4_whole l D cI cZ q a hd 0 rg cm co9 k (by omega)) gX4_couldBe_X4_whole rfl (by decide +kernel) rfl ⟨Nat.le_of_ble_eq_true rfl, Nat.le_of_ble_eq_true rfl⟩ [0, 1, 2, 3, 4, 5, 6, 7] [] rfl rfl (by decide) (by decide) (by decide) 0 rfl rfl rfl (Nat.le_of_ble_eq_true rfl) ⟨Nat.zero_le _, Nat.zero_le _⟩ dX4_couldBe_24 (fun r_24 u H locs hw_24 hP hD hS => ?_)
        have hP : va_P D vwCl [(q 50, .inr (4, [.int (nI (a.1 0)), .int (nI (a.1 1)), .int (nI (a.1 2)), .int (nI (a.1 3)), .ref (q 54), .ref (q 55), .int (nI hd), .int (nI (a.1 4)), .int (nI (a.1 5)), .int (nI (a.1 6)), .int (nI (a.1 7)), .ref (q 61), .ref (q 62), .ref (q 63), .int (nI (a.1 8)), .ref (q 65), .ref (q 66), .int (nI (a.1 9)), .int (nI (a.1 10)), .int (nI (a.1 11)), .int (nI (a.1 12)), .int (nI 0)])), (q 54, .inl (cI, 32, .inl rg)), (q 55, .inl (cI, 32, .inl cm)), (q 61, .inl (cZ, 300, .inl (a.2 2))), (q 62, .inl (cZ, 300, .inl (a.2 3))), (q 63, .inl (cI, 300, .inl (a.2 4))), (q 65, .inl (cI, 100, .inl (a.2 5))), (q 66, .inl (cZ, 100, .inl co9))] H := hP.sub [0, 1, 2, 3, 4, 5, 6, 7] rfl
        have hD : va_D A [(q 50, .inr (4, [.int (nI (a.1 0)), .int (nI (a.1 1)), .int (nI (a.1 2)), .int (nI (a.1 3)), .ref (q 54), .ref (q 55), .int (nI hd), .int (nI (a.1 4)), .int (nI (a.1 5)), .int (nI (a.1 6)), .int (nI (a.1 7)), .ref (q 61), .ref (q 62), .ref (q 63), .int (nI (a.1 8)), .ref (q 65), .ref (q 66), .int (nI (a.1 9)), .int (nI (a.1 10)), .int (nI (a.1 11)), .int (nI (a.1 12)), .int (nI 0)])), (q 54, .inl (cI, 32, .inl rg)), (q 55, .inl (cI, 32, .inl cm)), (q 61, .inl (cZ, 300, .inl (a.2 2))), (q 62, .inl (cZ, 300, .inl (a.2 3))), (q 63, .inl (cI, 300, .inl (a.2 4))), (q 65, .inl (cI, 100, .inl (a.2 5))), (q 66, .inl (cZ, 100, .inl co9))] := hD.sub [0, 1, 2, 3, 4, 5, 6, 7] (by decide) rfl
        by_cases e_24 : whl (a.2 2) k
        · rw [if_pos e_24] at hw_24
          obtain rfl : r_24 = nI 1 := hw_24
          refine k_if_eq (tgt := 73) hx hb (by decide) dX4_couldBe_27 (by decide) (fun q => absurd q (by decide)) (fun _ => ?_)
          refine lv_iload_n hx hb dX4_couldBe_30 rfl (lv_at hl 2 rfl) ?_
          refine k_callSi (n := 1) (As := [.int (nI k)]) (rest := [.int (nI k), .ref (q 66)]) hfix hN hK hP hD hS hA hl.1 (c_X4_before l D cI cZ k (by omega)) (fun _ => rfl) gX4_couldBe_X4_before rfl (by decide +kernel) rfl ⟨Nat.le_of_ble_eq_true rfl, Nat.le_of_ble_eq_true rfl⟩ [0, 1, 2, 3, 4, 5, 6, 7] rfl (by decide) rfl (Nat.le_of_ble_eq_true rfl) ⟨Nat.zero_le _, Nat.zero_le _⟩ dX4_couldBe_31 (fun r_31 u H locs hw_31 hP hD hS => ?_)
          by_cases e_31 : k % 6 = 0
          · rw [if_pos e_31] at hw_31
            obtain rfl : r_31 = (-1) := hw_31
            refine lv_iconst (v := (-1)) hx hb dX4_couldBe_34 (by decide) ?_
            refine lv_icmp_eq (tgt := 50) hx hb dX4_couldBe_35 (by decide) (fun c_35 => ?_) (fun c_35 => absurd c_35 (fun h => h rfl))
            refine lv_iload_n hx hb dX4_couldBe_50 rfl (lv_at hl 2 rfl) ?_
            refine k_callSi (n := 1) (As := [.int (nI k)]) (rest := [.int (nI k), .ref (q 66)]) hfix hN hK hP hD hS hA hl.1 (c_X4_behind l D cI cZ k (by omega)) (fun _ => rfl) gX4_couldBe_X4_behind rfl (by decide +kernel) rfl ⟨Nat.le_of_ble_eq_true rfl, Nat.le_of_ble_eq_true rfl⟩ [0, 1, 2, 3, 4, 5, 6, 7] rfl (by decide) rfl (Nat.le_of_ble_eq_true rfl) ⟨Nat.zero_le _, Nat.zero_le _⟩ dX4_couldBe_51 (fun r_51 u H locs hw_51 hP hD hS => ?_)
            by_cases e_51 : k % 3 = 0
            · rw [if_pos e_51] at hw_51
              obtain rfl : r_51 = (-1) := hw_51
              refine lv_iconst (v := (-1)) hx hb dX4_couldBe_54 (by decide) ?_
              refine lv_icmp_eq (tgt := 69) hx hb dX4_couldBe_55 (by decide) (fun c_55 => ?_) (fun c_55 => absurd c_55 (fun h => h rfl))
              refine lv_iconst (v := nI 1) hx hb dX4_couldBe_69 (by decide) ?_
              refine lv_goto (tgt := 74) hx hb dX4_couldBe_70 (by decide) ?_
              have hcb := cldB_iff (had := a.2 2) (k := k) (by omega)
              exact at74 1 ((if_pos (hcb.mpr ⟨e_24, Or.inl e_31, Or.inl e_51⟩)).symm) H locs ls hP hD hS (lv_sub hl [0, 1, 2] rfl)
            · rw [if_neg e_51] at hw_51
              obtain rfl : r_51 = nI (beh k) := hw_51
              refine lv_iconst (v := (-1)) hx hb dX4_couldBe_54 (by decide) ?_
              refine lv_icmp_eq (tgt := 69) hx hb dX4_couldBe_55 (by decide) (fun c_55 => absurd c_55 (nI_m1 (by have := beh_lt (f := k) (by omega) e_51; omega))) (fun c_55 => ?_)
              refine lv_aload_n hx hb dX4_couldBe_58 rfl (lv_at hl 0 rfl) ?_
              refine lv_iload_n hx hb dX4_couldBe_59 rfl (lv_at hl 2 rfl) ?_
              refine k_callSi (n := 1) (As := [.int (nI k)]) (rest := [.ref (q 50), .int (nI k), .ref (q 66)]) hfix hN hK hP hD hS hA hl.1 (c_X4_behind l D cI cZ k (by omega)) (fun _ => rfl) gX4_couldBe_X4_behind rfl (by decide +kernel) rfl ⟨Nat.le_of_ble_eq_true rfl, Nat.le_of_ble_eq_true rfl⟩ [0, 1, 2, 3, 4, 5, 6, 7] rfl (by decide) rfl (Nat.le_of_ble_eq_true rfl) ⟨Nat.zero_le _, Nat.zero_le _⟩ dX4_couldBe_60 (fun r_60 u H locs hw_60 hP hD hS => ?_)
              have e_60 : ¬ (k % 3 = 0) := e_51
              rw [if_neg e_60] at hw_60
              obtain rfl : r_60 = nI (beh k) := hw_60
              refine k_callVi (n := 1) (wr := []) (As := [.int (nI (beh k))]) (rest := [.int (nI k), .ref (q 66)]) hfix hN hK hP hD hS hA hl.1 (c_X4_whole l D cI cZ q a hd 0 rg cm co9 (beh k) (beh_lt (by omega) e_51)) gX4_couldBe_X4_whole rfl (by decide +kernel) rfl ⟨Nat.le_of_ble_eq_true rfl, Nat.le_of_ble_eq_true rfl⟩ [0, 1, 2, 3, 4, 5, 6, 7] [] rfl rfl (by decide) (by decide) (by decide) 0 rfl rfl rfl (Nat.le_of_ble_eq_true rfl) ⟨Nat.zero_le _, Nat.zero_le _⟩ dX4_couldBe_63 (fun r_63 u H locs hw_63 hP hD hS => ?_)
              have hP : va_P D vwCl [(q 50, .inr (4, [.int (nI (a.1 0)), .int (nI (a.1 1)), .int (nI (a.1 2)), .int (nI (a.1 3)), .ref (q 54), .ref (q 55), .int (nI hd), .int (nI (a.1 4)), .int (nI (a.1 5)), .int (nI (a.1 6)), .int (nI (a.1 7)), .ref (q 61), .ref (q 62), .ref (q 63), .int (nI (a.1 8)), .ref (q 65), .ref (q 66), .int (nI (a.1 9)), .int (nI (a.1 10)), .int (nI (a.1 11)), .int (nI (a.1 12)), .int (nI 0)])), (q 54, .inl (cI, 32, .inl rg)), (q 55, .inl (cI, 32, .inl cm)), (q 61, .inl (cZ, 300, .inl (a.2 2))), (q 62, .inl (cZ, 300, .inl (a.2 3))), (q 63, .inl (cI, 300, .inl (a.2 4))), (q 65, .inl (cI, 100, .inl (a.2 5))), (q 66, .inl (cZ, 100, .inl co9))] H := hP.sub [0, 1, 2, 3, 4, 5, 6, 7] rfl
              have hD : va_D A [(q 50, .inr (4, [.int (nI (a.1 0)), .int (nI (a.1 1)), .int (nI (a.1 2)), .int (nI (a.1 3)), .ref (q 54), .ref (q 55), .int (nI hd), .int (nI (a.1 4)), .int (nI (a.1 5)), .int (nI (a.1 6)), .int (nI (a.1 7)), .ref (q 61), .ref (q 62), .ref (q 63), .int (nI (a.1 8)), .ref (q 65), .ref (q 66), .int (nI (a.1 9)), .int (nI (a.1 10)), .int (nI (a.1 11)), .int (nI (a.1 12)), .int (nI 0)])), (q 54, .inl (cI, 32, .inl rg)), (q 55, .inl (cI, 32, .inl cm)), (q 61, .inl (cZ, 300, .inl (a.2 2))), (q 62, .inl (cZ, 300, .inl (a.2 3))), (q 63, .inl (cI, 300, .inl (a.2 4))), (q 65, .inl (cI, 100, .inl (a.2 5))), (q 66, .inl (cZ, 100, .inl co9))] := hD.sub [0, 1, 2, 3, 4, 5, 6, 7] (by decide) rfl
              by_cases e_63 : whl (a.2 2) (beh k)
              · rw [if_pos e_63] at hw_63
                obtain rfl : r_63 = nI 1 := hw_63
                refine k_if_eq (tgt := 73) hx hb (by decide) dX4_couldBe_66 (by decide) (fun q => absurd q (by decide)) (fun _ => ?_)
                refine lv_iconst (v := nI 1) hx hb dX4_couldBe_69 (by decide) ?_
                refine lv_goto (tgt := 74) hx hb dX4_couldBe_70 (by decide) ?_
                have hcb := cldB_iff (had := a.2 2) (k := k) (by omega)
                exact at74 1 ((if_pos (hcb.mpr ⟨e_24, Or.inl e_31, Or.inr e_63⟩)).symm) H locs ls hP hD hS (lv_sub hl [0, 1, 2] rfl)
              · rw [if_neg e_63] at hw_63
                obtain rfl : r_63 = nI 0 := hw_63
                refine k_if_eq (tgt := 73) hx hb (by decide) dX4_couldBe_66 (by decide) (fun _ => ?_) (fun q => absurd q (by decide))
                refine lv_iconst (v := nI 0) hx hb dX4_couldBe_73 (by decide) ?_
                have hcb := cldB_iff (had := a.2 2) (k := k) (by omega)
                exact at74 0 ((if_neg (fun h => (hcb.mp h).2.2.elim e_51 e_63)).symm) H locs ls hP hD hS (lv_sub hl [0, 1, 2] rfl)
          · rw [if_neg e_31] at hw_31
            obtain rfl : r_31 = nI (bef k) := hw_31
            refine lv_iconst (v := (-1)) hx hb dX4_couldBe_34 (by decide) ?_
            refine lv_icmp_eq (tgt := 50) hx hb dX4_couldBe_35 (by decide) (fun c_35 => absurd c_35 (nI_m1 (by have := bef_lt (f := k) (by omega); omega))) (fun c_35 => ?_)
            refine lv_aload_n hx hb dX4_couldBe_38 rfl (lv_at hl 0 rfl) ?_
            refine va_get (D := D) (ci := 4) (v := .ref (q 66)) (C := RX4) (T := TX4) (N := 22) hx hb hts hinX4 hown hK hP 0 rfl rfl 16 (by decide) (hts _ (List.mem_of_getElem? (i := 3) rfl)) (fun _ h9 => h9) rfl dX4_couldBe_39 ?_
            refine lv_iload_n hx hb dX4_couldBe_42 rfl (lv_at hl 2 rfl) ?_
            refine k_callSi (n := 1) (As := [.int (nI k)]) (rest := [.ref (q 66), .int (nI k), .ref (q 66)]) hfix hN hK hP hD hS hA hl.1 (c_X4_before l D cI cZ k (by omega)) (fun _ => rfl) gX4_couldBe_X4_before rfl (by decide +kernel) rfl ⟨Nat.le_of_ble_eq_true rfl, Nat.le_of_ble_eq_true rfl⟩ [0, 1, 2, 3, 4, 5, 6, 7] rfl (by decide) rfl (Nat.le_of_ble_eq_true rfl) ⟨Nat.zero_le _, Nat.zero_le _⟩ dX4_couldBe_43 (fun r_43 u H locs hw_43 hP hD hS => ?_)
            have e_43 : ¬ (k % 6 = 0) := e_31
            rw [if_neg e_43] at hw_43
            obtain rfl : r_43 = nI (bef k) := hw_43
            refine k_zald hx hb hK hP 7 1 rfl rfl (bef_lt (by omega)) (Nat.le_of_ble_eq_true rfl) dX4_couldBe_46 ?_
            refine lv_if_eq (tgt := 73) hx hb dX4_couldBe_47 (by decide) (fun c_47 => ?_) (fun c_47 => ?_)
            · -- c_47 taken
              refine lv_iconst (v := nI 0) hx hb dX4_couldBe_73 (by decide) ?_
              have hcb := cldB_iff (had := a.2 2) (k := k) (by omega)
              exact at74 0 ((if_neg (fun h => (hcb.mp h).2.1.elim e_31 (fun z => nI1_ne (((hcc (bef k) (bef_s e_31)).trans (if_pos z)).symm.trans c_47)))).symm) H locs ls hP hD hS (lv_sub hl [0, 1, 2] rfl)
            · -- c_47 not taken
              refine lv_iload_n hx hb dX4_couldBe_50 rfl (lv_at hl 2 rfl) ?_
              refine k_callSi (n := 1) (As := [.int (nI k)]) (rest := [.int (nI k), .ref (q 66)]) hfix hN hK hP hD hS hA hl.1 (c_X4_behind l D cI cZ k (by omega)) (fun _ => rfl) gX4_couldBe_X4_behind rfl (by decide +kernel) rfl ⟨Nat.le_of_ble_eq_true rfl, Nat.le_of_ble_eq_true rfl⟩ [0, 1, 2, 3, 4, 5, 6, 7] rfl (by decide) rfl (Nat.le_of_ble_eq_true rfl) ⟨Nat.zero_le _, Nat.zero_le _⟩ dX4_couldBe_51 (fun r_51 u H locs hw_51 hP hD hS => ?_)
              by_cases e_51 : k % 3 = 0
              · rw [if_pos e_51] at hw_51
                obtain rfl : r_51 = (-1) := hw_51
                refine lv_iconst (v := (-1)) hx hb dX4_couldBe_54 (by decide) ?_
                refine lv_icmp_eq (tgt := 69) hx hb dX4_couldBe_55 (by decide) (fun c_55 => ?_) (fun c_55 => absurd c_55 (fun h => h rfl))
                refine lv_iconst (v := nI 1) hx hb dX4_couldBe_69 (by decide) ?_
                refine lv_goto (tgt := 74) hx hb dX4_couldBe_70 (by decide) ?_
                have hcb := cldB_iff (had := a.2 2) (k := k) (by omega)
                exact at74 1 ((if_pos (hcb.mpr ⟨e_24, Or.inr (by by_cases z : cldB (a.2 2) (bef k); exact z; exact absurd ((hcc (bef k) (bef_s e_31)).trans (if_neg z)) c_47), Or.inl e_51⟩)).symm) H locs ls hP hD hS (lv_sub hl [0, 1, 2] rfl)
              · rw [if_neg e_51] at hw_51
                obtain rfl : r_51 = nI (beh k) := hw_51
                refine lv_iconst (v := (-1)) hx hb dX4_couldBe_54 (by decide) ?_
                refine lv_icmp_eq (tgt := 69) hx hb dX4_couldBe_55 (by decide) (fun c_55 => absurd c_55 (nI_m1 (by have := beh_lt (f := k) (by omega) e_51; omega))) (fun c_55 => ?_)
                refine lv_aload_n hx hb dX4_couldBe_58 rfl (lv_at hl 0 rfl) ?_
                refine lv_iload_n hx hb dX4_couldBe_59 rfl (lv_at hl 2 rfl) ?_
                refine k_callSi (n := 1) (As := [.int (nI k)]) (rest := [.ref (q 50), .int (nI k), .ref (q 66)]) hfix hN hK hP hD hS hA hl.1 (c_X4_behind l D cI cZ k (by omega)) (fun _ => rfl) gX4_couldBe_X4_behind rfl (by decide +kernel) rfl ⟨Nat.le_of_ble_eq_true rfl, Nat.le_of_ble_eq_true rfl⟩ [0, 1, 2, 3, 4, 5, 6, 7] rfl (by decide) rfl (Nat.le_of_ble_eq_true rfl) ⟨Nat.zero_le _, Nat.zero_le _⟩ dX4_couldBe_60 (fun r_60 u H locs hw_60 hP hD hS => ?_)
                have e_60 : ¬ (k % 3 = 0) := e_51
                rw [if_neg e_60] at hw_60
                obtain rfl : r_60 = nI (beh k) := hw_60
                refine k_callVi (n := 1) (wr := []) (As := [.int (nI (beh k))]) (rest := [.int (nI k), .ref (q 66)]) hfix hN hK hP hD hS hA hl.1 (c_X4_whole l D cI cZ q a hd 0 rg cm co9 (beh k) (beh_lt (by omega) e_51)) gX4_couldBe_X4_whole rfl (by decide +kernel) rfl ⟨Nat.le_of_ble_eq_true rfl, Nat.le_of_ble_eq_true rfl⟩ [0, 1, 2, 3, 4, 5, 6, 7] [] rfl rfl (by decide) (by decide) (by decide) 0 rfl rfl rfl (Nat.le_of_ble_eq_true rfl) ⟨Nat.zero_le _, Nat.zero_le _⟩ dX4_couldBe_63 (fun r_63 u H locs hw_63 hP hD hS => ?_)
                have hP : va_P D vwCl [(q 50, .inr (4, [.int (nI (a.1 0)), .int (nI (a.1 1)), .int (nI (a.1 2)), .int (nI (a.1 3)), .ref (q 54), .ref (q 55), .int (nI hd), .int (nI (a.1 4)), .int (nI (a.1 5)), .int (nI (a.1 6)), .int (nI (a.1 7)), .ref (q 61), .ref (q 62), .ref (q 63), .int (nI (a.1 8)), .ref (q 65), .ref (q 66), .int (nI (a.1 9)), .int (nI (a.1 10)), .int (nI (a.1 11)), .int (nI (a.1 12)), .int (nI 0)])), (q 54, .inl (cI, 32, .inl rg)), (q 55, .inl (cI, 32, .inl cm)), (q 61, .inl (cZ, 300, .inl (a.2 2))), (q 62, .inl (cZ, 300, .inl (a.2 3))), (q 63, .inl (cI, 300, .inl (a.2 4))), (q 65, .inl (cI, 100, .inl (a.2 5))), (q 66, .inl (cZ, 100, .inl co9))] H := hP.sub [0, 1, 2, 3, 4, 5, 6, 7] rfl
                have hD : va_D A [(q 50, .inr (4, [.int (nI (a.1 0)), .int (nI (a.1 1)), .int (nI (a.1 2)), .int (nI (a.1 3)), .ref (q 54), .ref (q 55), .int (nI hd), .int (nI (a.1 4)), .int (nI (a.1 5)), .int (nI (a.1 6)), .int (nI (a.1 7)), .ref (q 61), .ref (q 62), .ref (q 63), .int (nI (a.1 8)), .ref (q 65), .ref (q 66), .int (nI (a.1 9)), .int (nI (a.1 10)), .int (nI (a.1 11)), .int (nI (a.1 12)), .int (nI 0)])), (q 54, .inl (cI, 32, .inl rg)), (q 55, .inl (cI, 32, .inl cm)), (q 61, .inl (cZ, 300, .inl (a.2 2))), (q 62, .inl (cZ, 300, .inl (a.2 3))), (q 63, .inl (cI, 300, .inl (a.2 4))), (q 65, .inl (cI, 100, .inl (a.2 5))), (q 66, .inl (cZ, 100, .inl co9))] := hD.sub [0, 1, 2, 3, 4, 5, 6, 7] (by decide) rfl
                by_cases e_63 : whl (a.2 2) (beh k)
                · rw [if_pos e_63] at hw_63
                  obtain rfl : r_63 = nI 1 := hw_63
                  refine k_if_eq (tgt := 73) hx hb (by decide) dX4_couldBe_66 (by decide) (fun q => absurd q (by decide)) (fun _ => ?_)
                  refine lv_iconst (v := nI 1) hx hb dX4_couldBe_69 (by decide) ?_
                  refine lv_goto (tgt := 74) hx hb dX4_couldBe_70 (by decide) ?_
                  have hcb := cldB_iff (had := a.2 2) (k := k) (by omega)
                  exact at74 1 ((if_pos (hcb.mpr ⟨e_24, Or.inr (by by_cases z : cldB (a.2 2) (bef k); exact z; exact absurd ((hcc (bef k) (bef_s e_31)).trans (if_neg z)) c_47), Or.inr e_63⟩)).symm) H locs ls hP hD hS (lv_sub hl [0, 1, 2] rfl)
                · rw [if_neg e_63] at hw_63
                  obtain rfl : r_63 = nI 0 := hw_63
                  refine k_if_eq (tgt := 73) hx hb (by decide) dX4_couldBe_66 (by decide) (fun _ => ?_) (fun q => absurd q (by decide))
                  refine lv_iconst (v := nI 0) hx hb dX4_couldBe_73 (by decide) ?_
                  have hcb := cldB_iff (had := a.2 2) (k := k) (by omega)
                  exact at74 0 ((if_neg (fun h => (hcb.mp h).2.2.elim e_51 e_63)).symm) H locs ls hP hD hS (lv_sub hl [0, 1, 2] rfl)
        · rw [if_neg e_24] at hw_24
          obtain rfl : r_24 = nI 0 := hw_24
          refine k_if_eq (tgt := 73) hx hb (by decide) dX4_couldBe_27 (by decide) (fun _ => ?_) (fun q => absurd q (by decide))
          refine lv_iconst (v := nI 0) hx hb dX4_couldBe_73 (by decide) ?_
          have hcb := cldB_iff (had := a.2 2) (k := k) (by omega)
          exact at74 0 ((if_neg (fun h => e_24 (hcb.mp h).1)).symm) H locs ls hP hD hS (lv_sub hl [0, 1, 2] rfl)
  refine lv_aload_n hx hb dX4_couldBe_0 rfl (lv_at hl 0 rfl) ?_
  refine lv_iconst (v := nI 0) hx hb dX4_couldBe_1 (by decide) ?_
  refine va_put (D := D) (ci := 4) (v := .int (nI 0)) (ty := .int) (C := RX4) (T := TX4) (N := 22) hx hb hts hinX4 tyX4 tyX4_ok nmX4 hown hK hP hD hS 0 rfl rfl 21 (by decide) (hts _ (List.mem_of_getElem? (i := 1) rfl)) (fun _ h9 => h9) rfl (by decide +kernel) rfl rfl (Nat.le_of_ble_eq_true rfl) dX4_couldBe_2 (fun H locs hP hD hS => ?_)
  have hP : va_P D vwCl [(q 50, .inr (4, [.int (nI (a.1 0)), .int (nI (a.1 1)), .int (nI (a.1 2)), .int (nI (a.1 3)), .ref (q 54), .ref (q 55), .int (nI hd), .int (nI (a.1 4)), .int (nI (a.1 5)), .int (nI (a.1 6)), .int (nI (a.1 7)), .ref (q 61), .ref (q 62), .ref (q 63), .int (nI (a.1 8)), .ref (q 65), .ref (q 66), .int (nI (a.1 9)), .int (nI (a.1 10)), .int (nI (a.1 11)), .int (nI (a.1 12)), .int (nI 0)])), (q 54, .inl (cI, 32, .inl rg)), (q 55, .inl (cI, 32, .inl cm)), (q 61, .inl (cZ, 300, .inl (a.2 2))), (q 62, .inl (cZ, 300, .inl (a.2 3))), (q 63, .inl (cI, 300, .inl (a.2 4))), (q 65, .inl (cI, 100, .inl (a.2 5))), (q 66, .inl (cZ, 100, .inl co))] H := hP
  have hD : va_D A [(q 50, .inr (4, [.int (nI (a.1 0)), .int (nI (a.1 1)), .int (nI (a.1 2)), .int (nI (a.1 3)), .ref (q 54), .ref (q 55), .int (nI hd), .int (nI (a.1 4)), .int (nI (a.1 5)), .int (nI (a.1 6)), .int (nI (a.1 7)), .ref (q 61), .ref (q 62), .ref (q 63), .int (nI (a.1 8)), .ref (q 65), .ref (q 66), .int (nI (a.1 9)), .int (nI (a.1 10)), .int (nI (a.1 11)), .int (nI (a.1 12)), .int (nI 0)])), (q 54, .inl (cI, 32, .inl rg)), (q 55, .inl (cI, 32, .inl cm)), (q 61, .inl (cZ, 300, .inl (a.2 2))), (q 62, .inl (cZ, 300, .inl (a.2 3))), (q 63, .inl (cI, 300, .inl (a.2 4))), (q 65, .inl (cI, 100, .inl (a.2 5))), (q 66, .inl (cZ, 100, .inl co))] := hD
  refine lv_iconst (v := nI 0) hx hb dX4_couldBe_5 (by decide) ?_
  refine lv_istore_n (lv' := [(1, .int (nI 0)), (0, .ref (q 50))]) hx hb dX4_couldBe_6 rfl hl (by decide) rfl (fun ls hl => ?_)
  refine lv_iconst (v := nI 0) hx hb dX4_couldBe_7 (by decide) ?_
  refine lv_istore_n (lv' := [(2, .int (nI 0)), (1, .int (nI 0)), (0, .ref (q 50))]) hx hb dX4_couldBe_8 rfl hl (by decide) rfl (fun ls hl => ?_)
  exact at9 _ 0 0 co (Nat.lt_succ_self _) (Nat.zero_le _) rfl (fun j h => absurd h (Nat.not_lt_zero j)) H locs ls hP hD hS (lv_sub hl [2, 1, 0] rfl)
set_option maxHeartbeats 4000000 in
set_option maxRecDepth 100000 in
theorem c_X4_has_ok (l : Launch) (D : va_G) (cI cZ : ClassId) (q : Nat → Nat) (a : AS) (hd th : Nat) (rg cm co : Nat → Int32) (x : Int32) (h9 : inR x 300) : kMi l yX4_has wsX4_has 1 22 D (TY cI cZ) [.ref (q 50), .int x] [(q 50, .inr (4, [.int (nI (a.1 0)), .int (nI (a.1 1)), .int (nI (a.1 2)), .int (nI (a.1 3)), .ref (q 54), .ref (q 55), .int (nI hd), .int (nI (a.1 4)), .int (nI (a.1 5)), .int (nI (a.1 6)), .int (nI (a.1 7)), .ref (q 61), .ref (q 62), .ref (q 63), .int (nI (a.1 8)), .ref (q 65), .ref (q 66), .int (nI (a.1 9)), .int (nI (a.1 10)), .int (nI (a.1 11)), .int (nI (a.1 12)), .int (nI th)])), (q 54, .inl (cI, 32, .inl rg)), (q 55, .inl (cI, 32, .inl cm)), (q 61, .inl (cZ, 300, .inl (a.2 2))), (q 62, .inl (cZ, 300, .inl (a.2 3))), (q 63, .inl (cI, 300, .inl (a.2 4))), (q 65, .inl (cI, 100, .inl (a.2 5))), (q 66, .inl (cZ, 100, .inl co))] (fun (r : Int32) (_ : Unit) => r = (if a.2 2 x.toNatClampNeg = 0 then nI 0 else nI 1)) (fun (_ : Unit) => MW cI cZ q a hd rg cm 0 co) := by
  intro sz
  refine k_in (Qc := fun A => va_Qi (fun (r : Int32) (_ : Unit) => r = (if a.2 2 x.toNatClampNeg = 0 then nI 0 else nI 1)) (kB D A (fun (_ : Unit) => MW cI cZ q a hd rg cm 0 co)) A) (cc := cX4_has) (maxL := 2) (ret := (some .boolean)) (by decide) rfl (Nat.le_of_ble_eq_true rfl) ?_
  intro p e s m below meth c A ls hfix hr hlk hN hP hK hD hA hS hl
  have hfix : CallFix p m c cX4_has 2 s [.ref (q 50), .int x].toArray wsX4_has RX4 := hfix
  have hl : lv_has ls 2 [(0, .ref (q 50)), (1, .int x)] := hl
  obtain ⟨hx, hb, hml, hown, hts⟩ := id hfix
  have hinX4 : ∀ w ∈ wsX40, w ∈ wsX4_has := fun _ h => List.mem_cons_of_mem _ (List.mem_append_right _ h)
  have hP : va_P D vwCl [(q 50, .inr (4, [.int (nI (a.1 0)), .int (nI (a.1 1)), .int (nI (a.1 2)), .int (nI (a.1 3)), .ref (q 54), .ref (q 55), .int (nI hd), .int (nI (a.1 4)), .int (nI (a.1 5)), .int (nI (a.1 6)), .int (nI (a.1 7)), .ref (q 61), .ref (q 62), .ref (q 63), .int (nI (a.1 8)), .ref (q 65), .ref (q 66), .int (nI (a.1 9)), .int (nI (a.1 10)), .int (nI (a.1 11)), .int (nI (a.1 12)), .int (nI th)])), (q 54, .inl (cI, 32, .inl rg)), (q 55, .inl (cI, 32, .inl cm)), (q 61, .inl (cZ, 300, .inl (a.2 2))), (q 62, .inl (cZ, 300, .inl (a.2 3))), (q 63, .inl (cI, 300, .inl (a.2 4))), (q 65, .inl (cI, 100, .inl (a.2 5))), (q 66, .inl (cZ, 100, .inl co))] s.heap := hP
  have hD : va_D A [(q 50, .inr (4, [.int (nI (a.1 0)), .int (nI (a.1 1)), .int (nI (a.1 2)), .int (nI (a.1 3)), .ref (q 54), .ref (q 55), .int (nI hd), .int (nI (a.1 4)), .int (nI (a.1 5)), .int (nI (a.1 6)), .int (nI (a.1 7)), .ref (q 61), .ref (q 62), .ref (q 63), .int (nI (a.1 8)), .ref (q 65), .ref (q 66), .int (nI (a.1 9)), .int (nI (a.1 10)), .int (nI (a.1 11)), .int (nI (a.1 12)), .int (nI th)])), (q 54, .inl (cI, 32, .inl rg)), (q 55, .inl (cI, 32, .inl cm)), (q 61, .inl (cZ, 300, .inl (a.2 2))), (q 62, .inl (cZ, 300, .inl (a.2 3))), (q 63, .inl (cI, 300, .inl (a.2 4))), (q 65, .inl (cI, 100, .inl (a.2 5))), (q 66, .inl (cZ, 100, .inl co))] := hD
  have hS : ∃ (H : Heap) (locs : List Loc), H = s.heap ∧ locs = [] ∧ va_S A s.heap H locs := ⟨_, _, rfl, rfl, hS⟩
  obtain ⟨H, locs, hH, hlocs, hS⟩ := hS
  rw [← hH] at hP
  suffices hW9 : W p l e ({ frames := 1, cells := 0, slots := 0, locals := 22 } : Room) s m [.ref (q 50), .int x].toArray below meth c H locs 0 0 (MQ below (va_Qi (fun (r : Int32) (_ : Unit) => r = (if a.2 2 x.toNatClampNeg = 0 then nI 0 else nI 1)) (kB D A (fun (_ : Unit) => MW cI cZ q a hd rg cm 0 co)) A) [.ref (q 50), .int x].toArray s 0 0 A) (F0 m 0 ls []) by rw [hH, hlocs] at hW9; exact hW9
  clear hH hlocs
  refine lv_aload_n hx hb dX4_has_0 rfl (lv_at hl 0 rfl) ?_
  refine lv_iload_n hx hb dX4_has_1 rfl (lv_at hl 1 rfl) ?_
  refine lv_iconst (v := nI 0) hx hb dX4_has_2 (by decide) ?_
  refine lv_sipush (v := nI 299) hx hb dX4_has_3 (by decide) ?_
  refine k_callSi (n := 3) (As := [.int x, .int (nI 0), .int (nI 299)]) (rest := [.ref (q 50)]) hfix hN hK hP hD hS hA hl.1 (c_X4_in l D cI cZ (x) (nI 0) (nI 299)) (fun _ => rfl) gX4_has_X4_in rfl (by decide +kernel) rfl ⟨Nat.le_of_ble_eq_true rfl, Nat.le_of_ble_eq_true rfl⟩ [0, 1, 2, 3, 4, 5, 6, 7] rfl (by decide) rfl (Nat.le_of_ble_eq_true rfl) ⟨Nat.zero_le _, Nat.zero_le _⟩ dX4_has_6 (fun r_6 u H locs hw_6 hP hD hS => ?_)
  have e_6 : (¬ (x) < (nI 0) ∧ ¬ (nI 299) < (x)) := (in299.mpr h9)
  rw [if_pos e_6] at hw_6
  obtain rfl : r_6 = nI 1 := hw_6
  refine k_callVi (n := 1) (wr := []) (As := [.int (nI 1)]) (rest := []) hfix hN hK hP hD hS hA hl.1 (c_X4_asks1 l D cI cZ q a hd th rg cm co ) gX4_has_X4_asks rfl (by decide +kernel) rfl ⟨Nat.le_of_ble_eq_true rfl, Nat.le_of_ble_eq_true rfl⟩ [0, 1, 2, 3, 4, 5, 6, 7] [] rfl rfl (by decide) (by decide) (by decide) 0 rfl rfl rfl (Nat.le_of_ble_eq_true rfl) ⟨Nat.zero_le _, Nat.zero_le _⟩ dX4_has_9 (fun r_9 u H locs hw_9 hP hD hS => ?_)
  have hP : va_P D vwCl [(q 50, .inr (4, [.int (nI (a.1 0)), .int (nI (a.1 1)), .int (nI (a.1 2)), .int (nI (a.1 3)), .ref (q 54), .ref (q 55), .int (nI hd), .int (nI (a.1 4)), .int (nI (a.1 5)), .int (nI (a.1 6)), .int (nI (a.1 7)), .ref (q 61), .ref (q 62), .ref (q 63), .int (nI (a.1 8)), .ref (q 65), .ref (q 66), .int (nI (a.1 9)), .int (nI (a.1 10)), .int (nI (a.1 11)), .int (nI (a.1 12)), .int (nI 0)])), (q 54, .inl (cI, 32, .inl rg)), (q 55, .inl (cI, 32, .inl cm)), (q 61, .inl (cZ, 300, .inl (a.2 2))), (q 62, .inl (cZ, 300, .inl (a.2 3))), (q 63, .inl (cI, 300, .inl (a.2 4))), (q 65, .inl (cI, 100, .inl (a.2 5))), (q 66, .inl (cZ, 100, .inl co))] H := hP.sub [0, 1, 2, 3, 4, 5, 6, 7] rfl
  have hD : va_D A [(q 50, .inr (4, [.int (nI (a.1 0)), .int (nI (a.1 1)), .int (nI (a.1 2)), .int (nI (a.1 3)), .ref (q 54), .ref (q 55), .int (nI hd), .int (nI (a.1 4)), .int (nI (a.1 5)), .int (nI (a.1 6)), .int (nI (a.1 7)), .ref (q 61), .ref (q 62), .ref (q 63), .int (nI (a.1 8)), .ref (q 65), .ref (q 66), .int (nI (a.1 9)), .int (nI (a.1 10)), .int (nI (a.1 11)), .int (nI (a.1 12)), .int (nI 0)])), (q 54, .inl (cI, 32, .inl rg)), (q 55, .inl (cI, 32, .inl cm)), (q 61, .inl (cZ, 300, .inl (a.2 2))), (q 62, .inl (cZ, 300, .inl (a.2 3))), (q 63, .inl (cI, 300, .inl (a.2 4))), (q 65, .inl (cI, 100, .inl (a.2 5))), (q 66, .inl (cZ, 100, .inl co))] := hD.sub [0, 1, 2, 3, 4, 5, 6, 7] (by decide) rfl
  obtain rfl : r_9 = nI 1 := hw_9
  refine k_if_eq (tgt := 28) hx hb (by decide) dX4_has_12 (by decide) (fun q => absurd q (by decide)) (fun _ => ?_)
  have hq9 : x.toNatClampNeg < 300 := inR_lt (by decide) h9
  have hn9 : x = nI x.toNatClampNeg := inR_eq (by decide) h9
  have hl : lv_has ls 2 [(0, .ref (q 50)), (1, .int (nI x.toNatClampNeg))] := by rw [← hn9]; exact hl
  refine lv_aload_n hx hb dX4_has_15 rfl (lv_at hl 0 rfl) ?_
  refine va_get (D := D) (ci := 4) (v := .ref (q 61)) (C := RX4) (T := TX4) (N := 22) hx hb hts hinX4 hown hK hP 0 rfl rfl 11 (by decide) (hts _ (List.mem_of_getElem? (i := 1) rfl)) (fun _ h9 => h9) rfl dX4_has_16 ?_
  refine lv_iload_n hx hb dX4_has_19 rfl (lv_at hl 1 rfl) ?_
  refine k_zald hx hb hK hP 3 1 rfl rfl (by omega) (Nat.le_of_ble_eq_true rfl) dX4_has_20 ?_
  refine lv_if_eq (tgt := 28) hx hb dX4_has_21 (by decide) (fun c_21 => ?_) (fun c_21 => ?_)
  · -- c_21 taken
    refine lv_iconst (v := nI 0) hx hb dX4_has_28 (by decide) ?_
    exact k_iret (v := nI 0) hx hb hr hlk (by decide) () ((if_pos c_21).symm) hP hD hS dX4_has_29
  · -- c_21 not taken
    refine lv_iconst (v := nI 1) hx hb dX4_has_24 (by decide) ?_
    refine lv_goto (tgt := 29) hx hb dX4_has_25 (by decide) ?_
    exact k_iret (v := nI 1) hx hb hr hlk (by decide) () ((if_neg c_21).symm) hP hD hS dX4_has_29
set_option maxHeartbeats 4000000 in
set_option maxRecDepth 100000 in
theorem c_X4_has_no (l : Launch) (D : va_G) (cI cZ : ClassId) (q : Nat → Nat) (a : AS) (hd th : Nat) (rg cm co : Nat → Int32) (x : Int32) (h9 : ¬ (inR x 300)) : kMi l yX4_has wsX4_has 1 22 D (TY cI cZ) [.ref (q 50), .int x] [(q 50, .inr (4, [.int (nI (a.1 0)), .int (nI (a.1 1)), .int (nI (a.1 2)), .int (nI (a.1 3)), .ref (q 54), .ref (q 55), .int (nI hd), .int (nI (a.1 4)), .int (nI (a.1 5)), .int (nI (a.1 6)), .int (nI (a.1 7)), .ref (q 61), .ref (q 62), .ref (q 63), .int (nI (a.1 8)), .ref (q 65), .ref (q 66), .int (nI (a.1 9)), .int (nI (a.1 10)), .int (nI (a.1 11)), .int (nI (a.1 12)), .int (nI th)])), (q 54, .inl (cI, 32, .inl rg)), (q 55, .inl (cI, 32, .inl cm)), (q 61, .inl (cZ, 300, .inl (a.2 2))), (q 62, .inl (cZ, 300, .inl (a.2 3))), (q 63, .inl (cI, 300, .inl (a.2 4))), (q 65, .inl (cI, 100, .inl (a.2 5))), (q 66, .inl (cZ, 100, .inl co))] (fun (r : Int32) (_ : Unit) => r = nI 0) (fun (_ : Unit) => MW cI cZ q a hd rg cm 1 co) := by
  intro sz
  refine k_in (Qc := fun A => va_Qi (fun (r : Int32) (_ : Unit) => r = nI 0) (kB D A (fun (_ : Unit) => MW cI cZ q a hd rg cm 1 co)) A) (cc := cX4_has) (maxL := 2) (ret := (some .boolean)) (by decide) rfl (Nat.le_of_ble_eq_true rfl) ?_
  intro p e s m below meth c A ls hfix hr hlk hN hP hK hD hA hS hl
  have hfix : CallFix p m c cX4_has 2 s [.ref (q 50), .int x].toArray wsX4_has RX4 := hfix
  have hl : lv_has ls 2 [(0, .ref (q 50)), (1, .int x)] := hl
  obtain ⟨hx, hb, hml, hown, hts⟩ := id hfix
  have hP : va_P D vwCl [(q 50, .inr (4, [.int (nI (a.1 0)), .int (nI (a.1 1)), .int (nI (a.1 2)), .int (nI (a.1 3)), .ref (q 54), .ref (q 55), .int (nI hd), .int (nI (a.1 4)), .int (nI (a.1 5)), .int (nI (a.1 6)), .int (nI (a.1 7)), .ref (q 61), .ref (q 62), .ref (q 63), .int (nI (a.1 8)), .ref (q 65), .ref (q 66), .int (nI (a.1 9)), .int (nI (a.1 10)), .int (nI (a.1 11)), .int (nI (a.1 12)), .int (nI th)])), (q 54, .inl (cI, 32, .inl rg)), (q 55, .inl (cI, 32, .inl cm)), (q 61, .inl (cZ, 300, .inl (a.2 2))), (q 62, .inl (cZ, 300, .inl (a.2 3))), (q 63, .inl (cI, 300, .inl (a.2 4))), (q 65, .inl (cI, 100, .inl (a.2 5))), (q 66, .inl (cZ, 100, .inl co))] s.heap := hP
  have hD : va_D A [(q 50, .inr (4, [.int (nI (a.1 0)), .int (nI (a.1 1)), .int (nI (a.1 2)), .int (nI (a.1 3)), .ref (q 54), .ref (q 55), .int (nI hd), .int (nI (a.1 4)), .int (nI (a.1 5)), .int (nI (a.1 6)), .int (nI (a.1 7)), .ref (q 61), .ref (q 62), .ref (q 63), .int (nI (a.1 8)), .ref (q 65), .ref (q 66), .int (nI (a.1 9)), .int (nI (a.1 10)), .int (nI (a.1 11)), .int (nI (a.1 12)), .int (nI th)])), (q 54, .inl (cI, 32, .inl rg)), (q 55, .inl (cI, 32, .inl cm)), (q 61, .inl (cZ, 300, .inl (a.2 2))), (q 62, .inl (cZ, 300, .inl (a.2 3))), (q 63, .inl (cI, 300, .inl (a.2 4))), (q 65, .inl (cI, 100, .inl (a.2 5))), (q 66, .inl (cZ, 100, .inl co))] := hD
  have hS : ∃ (H : Heap) (locs : List Loc), H = s.heap ∧ locs = [] ∧ va_S A s.heap H locs := ⟨_, _, rfl, rfl, hS⟩
  obtain ⟨H, locs, hH, hlocs, hS⟩ := hS
  rw [← hH] at hP
  suffices hW9 : W p l e ({ frames := 1, cells := 0, slots := 0, locals := 22 } : Room) s m [.ref (q 50), .int x].toArray below meth c H locs 0 0 (MQ below (va_Qi (fun (r : Int32) (_ : Unit) => r = nI 0) (kB D A (fun (_ : Unit) => MW cI cZ q a hd rg cm 1 co)) A) [.ref (q 50), .int x].toArray s 0 0 A) (F0 m 0 ls []) by rw [hH, hlocs] at hW9; exact hW9
  clear hH hlocs
  refine lv_aload_n hx hb dX4_has_0 rfl (lv_at hl 0 rfl) ?_
  refine lv_iload_n hx hb dX4_has_1 rfl (lv_at hl 1 rfl) ?_
  refine lv_iconst (v := nI 0) hx hb dX4_has_2 (by decide) ?_
  refine lv_sipush (v := nI 299) hx hb dX4_has_3 (by decide) ?_
  refine k_callSi (n := 3) (As := [.int x, .int (nI 0), .int (nI 299)]) (rest := [.ref (q 50)]) hfix hN hK hP hD hS hA hl.1 (c_X4_in l D cI cZ (x) (nI 0) (nI 299)) (fun _ => rfl) gX4_has_X4_in rfl (by decide +kernel) rfl ⟨Nat.le_of_ble_eq_true rfl, Nat.le_of_ble_eq_true rfl⟩ [0, 1, 2, 3, 4, 5, 6, 7] rfl (by decide) rfl (Nat.le_of_ble_eq_true rfl) ⟨Nat.zero_le _, Nat.zero_le _⟩ dX4_has_6 (fun r_6 u H locs hw_6 hP hD hS => ?_)
  have e_6 : ¬ (¬ (x) < (nI 0) ∧ ¬ (nI 299) < (x)) := (fun e => h9 (in299.mp e))
  rw [if_neg e_6] at hw_6
  obtain rfl : r_6 = nI 0 := hw_6
  refine k_callVi (n := 1) (wr := []) (As := [.int (nI 0)]) (rest := []) hfix hN hK hP hD hS hA hl.1 (c_X4_asks0 l D cI cZ q a hd th rg cm co ) gX4_has_X4_asks rfl (by decide +kernel) rfl ⟨Nat.le_of_ble_eq_true rfl, Nat.le_of_ble_eq_true rfl⟩ [0, 1, 2, 3, 4, 5, 6, 7] [] rfl rfl (by decide) (by decide) (by decide) 0 rfl rfl rfl (Nat.le_of_ble_eq_true rfl) ⟨Nat.zero_le _, Nat.zero_le _⟩ dX4_has_9 (fun r_9 u H locs hw_9 hP hD hS => ?_)
  have hP : va_P D vwCl [(q 50, .inr (4, [.int (nI (a.1 0)), .int (nI (a.1 1)), .int (nI (a.1 2)), .int (nI (a.1 3)), .ref (q 54), .ref (q 55), .int (nI hd), .int (nI (a.1 4)), .int (nI (a.1 5)), .int (nI (a.1 6)), .int (nI (a.1 7)), .ref (q 61), .ref (q 62), .ref (q 63), .int (nI (a.1 8)), .ref (q 65), .ref (q 66), .int (nI (a.1 9)), .int (nI (a.1 10)), .int (nI (a.1 11)), .int (nI (a.1 12)), .int (nI 1)])), (q 54, .inl (cI, 32, .inl rg)), (q 55, .inl (cI, 32, .inl cm)), (q 61, .inl (cZ, 300, .inl (a.2 2))), (q 62, .inl (cZ, 300, .inl (a.2 3))), (q 63, .inl (cI, 300, .inl (a.2 4))), (q 65, .inl (cI, 100, .inl (a.2 5))), (q 66, .inl (cZ, 100, .inl co))] H := hP.sub [0, 1, 2, 3, 4, 5, 6, 7] rfl
  have hD : va_D A [(q 50, .inr (4, [.int (nI (a.1 0)), .int (nI (a.1 1)), .int (nI (a.1 2)), .int (nI (a.1 3)), .ref (q 54), .ref (q 55), .int (nI hd), .int (nI (a.1 4)), .int (nI (a.1 5)), .int (nI (a.1 6)), .int (nI (a.1 7)), .ref (q 61), .ref (q 62), .ref (q 63), .int (nI (a.1 8)), .ref (q 65), .ref (q 66), .int (nI (a.1 9)), .int (nI (a.1 10)), .int (nI (a.1 11)), .int (nI (a.1 12)), .int (nI 1)])), (q 54, .inl (cI, 32, .inl rg)), (q 55, .inl (cI, 32, .inl cm)), (q 61, .inl (cZ, 300, .inl (a.2 2))), (q 62, .inl (cZ, 300, .inl (a.2 3))), (q 63, .inl (cI, 300, .inl (a.2 4))), (q 65, .inl (cI, 100, .inl (a.2 5))), (q 66, .inl (cZ, 100, .inl co))] := hD.sub [0, 1, 2, 3, 4, 5, 6, 7] (by decide) rfl
  obtain rfl : r_9 = nI 0 := hw_9
  refine k_if_eq (tgt := 28) hx hb (by decide) dX4_has_12 (by decide) (fun _ => ?_) (fun q => absurd q (by decide))
  refine lv_iconst (v := nI 0) hx hb dX4_has_28 (by decide) ?_
  exact k_iret (v := nI 0) hx hb hr hlk (by decide) () rfl hP hD hS dX4_has_29
set_option maxHeartbeats 4000000 in
set_option maxRecDepth 100000 in
theorem c_X4_askedAt_ok (l : Launch) (D : va_G) (cI cZ : ClassId) (q : Nat → Nat) (a : AS) (hd th : Nat) (rg cm co : Nat → Int32) (hI : AI a) (x : Int32) (h9 : ¬ x < 0 ∧ x < nI (a.1 8)) : kMi l yX4_askedAt wsX4_askedAt 1 22 D (TY cI cZ) [.ref (q 50), .int x] [(q 50, .inr (4, [.int (nI (a.1 0)), .int (nI (a.1 1)), .int (nI (a.1 2)), .int (nI (a.1 3)), .ref (q 54), .ref (q 55), .int (nI hd), .int (nI (a.1 4)), .int (nI (a.1 5)), .int (nI (a.1 6)), .int (nI (a.1 7)), .ref (q 61), .ref (q 62), .ref (q 63), .int (nI (a.1 8)), .ref (q 65), .ref (q 66), .int (nI (a.1 9)), .int (nI (a.1 10)), .int (nI (a.1 11)), .int (nI (a.1 12)), .int (nI th)])), (q 54, .inl (cI, 32, .inl rg)), (q 55, .inl (cI, 32, .inl cm)), (q 61, .inl (cZ, 300, .inl (a.2 2))), (q 62, .inl (cZ, 300, .inl (a.2 3))), (q 63, .inl (cI, 300, .inl (a.2 4))), (q 65, .inl (cI, 100, .inl (a.2 5))), (q 66, .inl (cZ, 100, .inl co))] (fun (r : Int32) (_ : Unit) => r = a.2 4 x.toNatClampNeg) (fun (_ : Unit) => MW cI cZ q a hd rg cm 0 co) := by
  obtain ⟨⟨i0, i4, i5, i7, i9, i10, i11, i12⟩, ⟨i1, i2, i3⟩, ⟨i8, i13, i14⟩, iQ, iH0, iH1, iW0, iW1, iN⟩ := id hI
  intro sz
  refine k_in (Qc := fun A => va_Qi (fun (r : Int32) (_ : Unit) => r = a.2 4 x.toNatClampNeg) (kB D A (fun (_ : Unit) => MW cI cZ q a hd rg cm 0 co)) A) (cc := cX4_askedAt) (maxL := 2) (ret := (some .int)) (by decide) rfl (Nat.le_of_ble_eq_true rfl) ?_
  intro p e s m below meth c A ls hfix hr hlk hN hP hK hD hA hS hl
  have hfix : CallFix p m c cX4_askedAt 2 s [.ref (q 50), .int x].toArray wsX4_askedAt RX4 := hfix
  have hl : lv_has ls 2 [(0, .ref (q 50)), (1, .int x)] := hl
  obtain ⟨hx, hb, hml, hown, hts⟩ := id hfix
  have hinX4 : ∀ w ∈ wsX40, w ∈ wsX4_askedAt := fun _ h => List.mem_cons_of_mem _ (List.mem_append_right _ h)
  have hP : va_P D vwCl [(q 50, .inr (4, [.int (nI (a.1 0)), .int (nI (a.1 1)), .int (nI (a.1 2)), .int (nI (a.1 3)), .ref (q 54), .ref (q 55), .int (nI hd), .int (nI (a.1 4)), .int (nI (a.1 5)), .int (nI (a.1 6)), .int (nI (a.1 7)), .ref (q 61), .ref (q 62), .ref (q 63), .int (nI (a.1 8)), .ref (q 65), .ref (q 66), .int (nI (a.1 9)), .int (nI (a.1 10)), .int (nI (a.1 11)), .int (nI (a.1 12)), .int (nI th)])), (q 54, .inl (cI, 32, .inl rg)), (q 55, .inl (cI, 32, .inl cm)), (q 61, .inl (cZ, 300, .inl (a.2 2))), (q 62, .inl (cZ, 300, .inl (a.2 3))), (q 63, .inl (cI, 300, .inl (a.2 4))), (q 65, .inl (cI, 100, .inl (a.2 5))), (q 66, .inl (cZ, 100, .inl co))] s.heap := hP
  have hD : va_D A [(q 50, .inr (4, [.int (nI (a.1 0)), .int (nI (a.1 1)), .int (nI (a.1 2)), .int (nI (a.1 3)), .ref (q 54), .ref (q 55), .int (nI hd), .int (nI (a.1 4)), .int (nI (a.1 5)), .int (nI (a.1 6)), .int (nI (a.1 7)), .ref (q 61), .ref (q 62), .ref (q 63), .int (nI (a.1 8)), .ref (q 65), .ref (q 66), .int (nI (a.1 9)), .int (nI (a.1 10)), .int (nI (a.1 11)), .int (nI (a.1 12)), .int (nI th)])), (q 54, .inl (cI, 32, .inl rg)), (q 55, .inl (cI, 32, .inl cm)), (q 61, .inl (cZ, 300, .inl (a.2 2))), (q 62, .inl (cZ, 300, .inl (a.2 3))), (q 63, .inl (cI, 300, .inl (a.2 4))), (q 65, .inl (cI, 100, .inl (a.2 5))), (q 66, .inl (cZ, 100, .inl co))] := hD
  have hS : ∃ (H : Heap) (locs : List Loc), H = s.heap ∧ locs = [] ∧ va_S A s.heap H locs := ⟨_, _, rfl, rfl, hS⟩
  obtain ⟨H, locs, hH, hlocs, hS⟩ := hS
  rw [← hH] at hP
  suffices hW9 : W p l e ({ frames := 1, cells := 0, slots := 0, locals := 22 } : Room) s m [.ref (q 50), .int x].toArray below meth c H locs 0 0 (MQ below (va_Qi (fun (r : Int32) (_ : Unit) => r = a.2 4 x.toNatClampNeg) (kB D A (fun (_ : Unit) => MW cI cZ q a hd rg cm 0 co)) A) [.ref (q 50), .int x].toArray s 0 0 A) (F0 m 0 ls []) by rw [hH, hlocs] at hW9; exact hW9
  clear hH hlocs
  refine lv_aload_n hx hb dX4_askedAt_0 rfl (lv_at hl 0 rfl) ?_
  refine lv_iload_n hx hb dX4_askedAt_1 rfl (lv_at hl 1 rfl) ?_
  refine lv_iconst (v := nI 0) hx hb dX4_askedAt_2 (by decide) ?_
  refine lv_aload_n hx hb dX4_askedAt_3 rfl (lv_at hl 0 rfl) ?_
  refine va_get (D := D) (ci := 4) (v := .int (nI (a.1 8))) (C := RX4) (T := TX4) (N := 22) hx hb hts hinX4 hown hK hP 0 rfl rfl 14 (by decide) (hts _ (List.mem_of_getElem? (i := 1) rfl)) (fun _ h9 => h9) rfl dX4_askedAt_4 ?_
  refine lv_iconst (v := nI 1) hx hb dX4_askedAt_7 (by decide) ?_
  refine lv_isub hx hb dX4_askedAt_8 ?_
  refine k_callSi (n := 3) (As := [.int x, .int (nI 0), .int (nI (a.1 8) - nI 1)]) (rest := [.ref (q 50)]) hfix hN hK hP hD hS hA hl.1 (c_X4_in l D cI cZ (x) (nI 0) ((nI (a.1 8) - nI 1))) (fun _ => rfl) gX4_askedAt_X4_in rfl (by decide +kernel) rfl ⟨Nat.le_of_ble_eq_true rfl, Nat.le_of_ble_eq_true rfl⟩ [0, 1, 2, 3, 4, 5, 6, 7] rfl (by decide) rfl (Nat.le_of_ble_eq_true rfl) ⟨Nat.zero_le _, Nat.zero_le _⟩ dX4_askedAt_9 (fun r_9 u H locs hw_9 hP hD hS => ?_)
  have e_9 : (¬ (x) < (nI 0) ∧ ¬ ((nI (a.1 8) - nI 1)) < (x)) := ((inAsk (by omega)).mpr h9)
  rw [if_pos e_9] at hw_9
  obtain rfl : r_9 = nI 1 := hw_9
  refine k_callVi (n := 1) (wr := []) (As := [.int (nI 1)]) (rest := []) hfix hN hK hP hD hS hA hl.1 (c_X4_asks1 l D cI cZ q a hd th rg cm co ) gX4_askedAt_X4_asks rfl (by decide +kernel) rfl ⟨Nat.le_of_ble_eq_true rfl, Nat.le_of_ble_eq_true rfl⟩ [0, 1, 2, 3, 4, 5, 6, 7] [] rfl rfl (by decide) (by decide) (by decide) 0 rfl rfl rfl (Nat.le_of_ble_eq_true rfl) ⟨Nat.zero_le _, Nat.zero_le _⟩ dX4_askedAt_12 (fun r_12 u H locs hw_12 hP hD hS => ?_)
  have hP : va_P D vwCl [(q 50, .inr (4, [.int (nI (a.1 0)), .int (nI (a.1 1)), .int (nI (a.1 2)), .int (nI (a.1 3)), .ref (q 54), .ref (q 55), .int (nI hd), .int (nI (a.1 4)), .int (nI (a.1 5)), .int (nI (a.1 6)), .int (nI (a.1 7)), .ref (q 61), .ref (q 62), .ref (q 63), .int (nI (a.1 8)), .ref (q 65), .ref (q 66), .int (nI (a.1 9)), .int (nI (a.1 10)), .int (nI (a.1 11)), .int (nI (a.1 12)), .int (nI 0)])), (q 54, .inl (cI, 32, .inl rg)), (q 55, .inl (cI, 32, .inl cm)), (q 61, .inl (cZ, 300, .inl (a.2 2))), (q 62, .inl (cZ, 300, .inl (a.2 3))), (q 63, .inl (cI, 300, .inl (a.2 4))), (q 65, .inl (cI, 100, .inl (a.2 5))), (q 66, .inl (cZ, 100, .inl co))] H := hP.sub [0, 1, 2, 3, 4, 5, 6, 7] rfl
  have hD : va_D A [(q 50, .inr (4, [.int (nI (a.1 0)), .int (nI (a.1 1)), .int (nI (a.1 2)), .int (nI (a.1 3)), .ref (q 54), .ref (q 55), .int (nI hd), .int (nI (a.1 4)), .int (nI (a.1 5)), .int (nI (a.1 6)), .int (nI (a.1 7)), .ref (q 61), .ref (q 62), .ref (q 63), .int (nI (a.1 8)), .ref (q 65), .ref (q 66), .int (nI (a.1 9)), .int (nI (a.1 10)), .int (nI (a.1 11)), .int (nI (a.1 12)), .int (nI 0)])), (q 54, .inl (cI, 32, .inl rg)), (q 55, .inl (cI, 32, .inl cm)), (q 61, .inl (cZ, 300, .inl (a.2 2))), (q 62, .inl (cZ, 300, .inl (a.2 3))), (q 63, .inl (cI, 300, .inl (a.2 4))), (q 65, .inl (cI, 100, .inl (a.2 5))), (q 66, .inl (cZ, 100, .inl co))] := hD.sub [0, 1, 2, 3, 4, 5, 6, 7] (by decide) rfl
  obtain rfl : r_12 = nI 1 := hw_12
  refine k_if_eq (tgt := 27) hx hb (by decide) dX4_askedAt_15 (by decide) (fun q => absurd q (by decide)) (fun _ => ?_)
  have hn9 : x = nI x.toNatClampNeg ∧ x.toNatClampNeg < a.1 8 := pos_nI (by omega) h9.1 h9.2
  have hq9 := hn9.2
  have hn9 := hn9.1
  have hl : lv_has ls 2 [(0, .ref (q 50)), (1, .int (nI x.toNatClampNeg))] := by rw [← hn9]; exact hl
  refine lv_aload_n hx hb dX4_askedAt_18 rfl (lv_at hl 0 rfl) ?_
  refine va_get (D := D) (ci := 4) (v := .ref (q 63)) (C := RX4) (T := TX4) (N := 22) hx hb hts hinX4 hown hK hP 0 rfl rfl 13 (by decide) (hts _ (List.mem_of_getElem? (i := 2) rfl)) (fun _ h9 => h9) rfl dX4_askedAt_19 ?_
  refine lv_iload_n hx hb dX4_askedAt_22 rfl (lv_at hl 1 rfl) ?_
  refine k_iald hx hb hK hP 5 0 rfl rfl (by omega) (Nat.le_of_ble_eq_true rfl) dX4_askedAt_23 ?_
  refine lv_goto (tgt := 28) hx hb dX4_askedAt_24 (by decide) ?_
  exact k_iret (v := ((a.2 4) x.toNatClampNeg)) hx hb hr hlk rfl () rfl hP hD hS dX4_askedAt_28
set_option maxHeartbeats 4000000 in
set_option maxRecDepth 100000 in
theorem c_X4_askedAt_no (l : Launch) (D : va_G) (cI cZ : ClassId) (q : Nat → Nat) (a : AS) (hd th : Nat) (rg cm co : Nat → Int32) (hI : AI a) (x : Int32) (h9 : ¬ (¬ x < 0 ∧ x < nI (a.1 8))) : kMi l yX4_askedAt wsX4_askedAt 1 22 D (TY cI cZ) [.ref (q 50), .int x] [(q 50, .inr (4, [.int (nI (a.1 0)), .int (nI (a.1 1)), .int (nI (a.1 2)), .int (nI (a.1 3)), .ref (q 54), .ref (q 55), .int (nI hd), .int (nI (a.1 4)), .int (nI (a.1 5)), .int (nI (a.1 6)), .int (nI (a.1 7)), .ref (q 61), .ref (q 62), .ref (q 63), .int (nI (a.1 8)), .ref (q 65), .ref (q 66), .int (nI (a.1 9)), .int (nI (a.1 10)), .int (nI (a.1 11)), .int (nI (a.1 12)), .int (nI th)])), (q 54, .inl (cI, 32, .inl rg)), (q 55, .inl (cI, 32, .inl cm)), (q 61, .inl (cZ, 300, .inl (a.2 2))), (q 62, .inl (cZ, 300, .inl (a.2 3))), (q 63, .inl (cI, 300, .inl (a.2 4))), (q 65, .inl (cI, 100, .inl (a.2 5))), (q 66, .inl (cZ, 100, .inl co))] (fun (r : Int32) (_ : Unit) => r = nI 0) (fun (_ : Unit) => MW cI cZ q a hd rg cm 1 co) := by
  intro sz
  refine k_in (Qc := fun A => va_Qi (fun (r : Int32) (_ : Unit) => r = nI 0) (kB D A (fun (_ : Unit) => MW cI cZ q a hd rg cm 1 co)) A) (cc := cX4_askedAt) (maxL := 2) (ret := (some .int)) (by decide) rfl (Nat.le_of_ble_eq_true rfl) ?_
  intro p e s m below meth c A ls hfix hr hlk hN hP hK hD hA hS hl
  have hfix : CallFix p m c cX4_askedAt 2 s [.ref (q 50), .int x].toArray wsX4_askedAt RX4 := hfix
  have hl : lv_has ls 2 [(0, .ref (q 50)), (1, .int x)] := hl
  obtain ⟨hx, hb, hml, hown, hts⟩ := id hfix
  have hinX4 : ∀ w ∈ wsX40, w ∈ wsX4_askedAt := fun _ h => List.mem_cons_of_mem _ (List.mem_append_right _ h)
  have hP : va_P D vwCl [(q 50, .inr (4, [.int (nI (a.1 0)), .int (nI (a.1 1)), .int (nI (a.1 2)), .int (nI (a.1 3)), .ref (q 54), .ref (q 55), .int (nI hd), .int (nI (a.1 4)), .int (nI (a.1 5)), .int (nI (a.1 6)), .int (nI (a.1 7)), .ref (q 61), .ref (q 62), .ref (q 63), .int (nI (a.1 8)), .ref (q 65), .ref (q 66), .int (nI (a.1 9)), .int (nI (a.1 10)), .int (nI (a.1 11)), .int (nI (a.1 12)), .int (nI th)])), (q 54, .inl (cI, 32, .inl rg)), (q 55, .inl (cI, 32, .inl cm)), (q 61, .inl (cZ, 300, .inl (a.2 2))), (q 62, .inl (cZ, 300, .inl (a.2 3))), (q 63, .inl (cI, 300, .inl (a.2 4))), (q 65, .inl (cI, 100, .inl (a.2 5))), (q 66, .inl (cZ, 100, .inl co))] s.heap := hP
  have hD : va_D A [(q 50, .inr (4, [.int (nI (a.1 0)), .int (nI (a.1 1)), .int (nI (a.1 2)), .int (nI (a.1 3)), .ref (q 54), .ref (q 55), .int (nI hd), .int (nI (a.1 4)), .int (nI (a.1 5)), .int (nI (a.1 6)), .int (nI (a.1 7)), .ref (q 61), .ref (q 62), .ref (q 63), .int (nI (a.1 8)), .ref (q 65), .ref (q 66), .int (nI (a.1 9)), .int (nI (a.1 10)), .int (nI (a.1 11)), .int (nI (a.1 12)), .int (nI th)])), (q 54, .inl (cI, 32, .inl rg)), (q 55, .inl (cI, 32, .inl cm)), (q 61, .inl (cZ, 300, .inl (a.2 2))), (q 62, .inl (cZ, 300, .inl (a.2 3))), (q 63, .inl (cI, 300, .inl (a.2 4))), (q 65, .inl (cI, 100, .inl (a.2 5))), (q 66, .inl (cZ, 100, .inl co))] := hD
  have hS : ∃ (H : Heap) (locs : List Loc), H = s.heap ∧ locs = [] ∧ va_S A s.heap H locs := ⟨_, _, rfl, rfl, hS⟩
  obtain ⟨H, locs, hH, hlocs, hS⟩ := hS
  rw [← hH] at hP
  suffices hW9 : W p l e ({ frames := 1, cells := 0, slots := 0, locals := 22 } : Room) s m [.ref (q 50), .int x].toArray below meth c H locs 0 0 (MQ below (va_Qi (fun (r : Int32) (_ : Unit) => r = nI 0) (kB D A (fun (_ : Unit) => MW cI cZ q a hd rg cm 1 co)) A) [.ref (q 50), .int x].toArray s 0 0 A) (F0 m 0 ls []) by rw [hH, hlocs] at hW9; exact hW9
  clear hH hlocs
  refine lv_aload_n hx hb dX4_askedAt_0 rfl (lv_at hl 0 rfl) ?_
  refine lv_iload_n hx hb dX4_askedAt_1 rfl (lv_at hl 1 rfl) ?_
  refine lv_iconst (v := nI 0) hx hb dX4_askedAt_2 (by decide) ?_
  refine lv_aload_n hx hb dX4_askedAt_3 rfl (lv_at hl 0 rfl) ?_
  refine va_get (D := D) (ci := 4) (v := .int (nI (a.1 8))) (C := RX4) (T := TX4) (N := 22) hx hb hts hinX4 hown hK hP 0 rfl rfl 14 (by decide) (hts _ (List.mem_of_getElem? (i := 1) rfl)) (fun _ h9 => h9) rfl dX4_askedAt_4 ?_
  refine lv_iconst (v := nI 1) hx hb dX4_askedAt_7 (by decide) ?_
  refine lv_isub hx hb dX4_askedAt_8 ?_
  refine k_callSi (n := 3) (As := [.int x, .int (nI 0), .int (nI (a.1 8) - nI 1)]) (rest := [.ref (q 50)]) hfix hN hK hP hD hS hA hl.1 (c_X4_in l D cI cZ (x) (nI 0) ((nI (a.1 8) - nI 1))) (fun _ => rfl) gX4_askedAt_X4_in rfl (by decide +kernel) rfl ⟨Nat.le_of_ble_eq_true rfl, Nat.le_of_ble_eq_true rfl⟩ [0, 1, 2, 3, 4, 5, 6, 7] rfl (by decide) rfl (Nat.le_of_ble_eq_true rfl) ⟨Nat.zero_le _, Nat.zero_le _⟩ dX4_askedAt_9 (fun r_9 u H locs hw_9 hP hD hS => ?_)
  have e_9 : ¬ (¬ (x) < (nI 0) ∧ ¬ ((nI (a.1 8) - nI 1)) < (x)) := (fun e => h9 ((inAsk (by have := hI.2.2.1; omega)).mp e))
  rw [if_neg e_9] at hw_9
  obtain rfl : r_9 = nI 0 := hw_9
  refine k_callVi (n := 1) (wr := []) (As := [.int (nI 0)]) (rest := []) hfix hN hK hP hD hS hA hl.1 (c_X4_asks0 l D cI cZ q a hd th rg cm co ) gX4_askedAt_X4_asks rfl (by decide +kernel) rfl ⟨Nat.le_of_ble_eq_true rfl, Nat.le_of_ble_eq_true rfl⟩ [0, 1, 2, 3, 4, 5, 6, 7] [] rfl rfl (by decide) (by decide) (by decide) 0 rfl rfl rfl (Nat.le_of_ble_eq_true rfl) ⟨Nat.zero_le _, Nat.zero_le _⟩ dX4_askedAt_12 (fun r_12 u H locs hw_12 hP hD hS => ?_)
  have hP : va_P D vwCl [(q 50, .inr (4, [.int (nI (a.1 0)), .int (nI (a.1 1)), .int (nI (a.1 2)), .int (nI (a.1 3)), .ref (q 54), .ref (q 55), .int (nI hd), .int (nI (a.1 4)), .int (nI (a.1 5)), .int (nI (a.1 6)), .int (nI (a.1 7)), .ref (q 61), .ref (q 62), .ref (q 63), .int (nI (a.1 8)), .ref (q 65), .ref (q 66), .int (nI (a.1 9)), .int (nI (a.1 10)), .int (nI (a.1 11)), .int (nI (a.1 12)), .int (nI 1)])), (q 54, .inl (cI, 32, .inl rg)), (q 55, .inl (cI, 32, .inl cm)), (q 61, .inl (cZ, 300, .inl (a.2 2))), (q 62, .inl (cZ, 300, .inl (a.2 3))), (q 63, .inl (cI, 300, .inl (a.2 4))), (q 65, .inl (cI, 100, .inl (a.2 5))), (q 66, .inl (cZ, 100, .inl co))] H := hP.sub [0, 1, 2, 3, 4, 5, 6, 7] rfl
  have hD : va_D A [(q 50, .inr (4, [.int (nI (a.1 0)), .int (nI (a.1 1)), .int (nI (a.1 2)), .int (nI (a.1 3)), .ref (q 54), .ref (q 55), .int (nI hd), .int (nI (a.1 4)), .int (nI (a.1 5)), .int (nI (a.1 6)), .int (nI (a.1 7)), .ref (q 61), .ref (q 62), .ref (q 63), .int (nI (a.1 8)), .ref (q 65), .ref (q 66), .int (nI (a.1 9)), .int (nI (a.1 10)), .int (nI (a.1 11)), .int (nI (a.1 12)), .int (nI 1)])), (q 54, .inl (cI, 32, .inl rg)), (q 55, .inl (cI, 32, .inl cm)), (q 61, .inl (cZ, 300, .inl (a.2 2))), (q 62, .inl (cZ, 300, .inl (a.2 3))), (q 63, .inl (cI, 300, .inl (a.2 4))), (q 65, .inl (cI, 100, .inl (a.2 5))), (q 66, .inl (cZ, 100, .inl co))] := hD.sub [0, 1, 2, 3, 4, 5, 6, 7] (by decide) rfl
  obtain rfl : r_12 = nI 0 := hw_12
  refine k_if_eq (tgt := 27) hx hb (by decide) dX4_askedAt_15 (by decide) (fun _ => ?_) (fun q => absurd q (by decide))
  refine lv_iconst (v := nI 0) hx hb dX4_askedAt_27 (by decide) ?_
  exact k_iret (v := nI 0) hx hb hr hlk rfl () rfl hP hD hS dX4_askedAt_28
set_option maxHeartbeats 4000000 in
set_option maxRecDepth 100000 in
theorem c_X4_kindOf_ok (l : Launch) (D : va_G) (cI cZ : ClassId) (q : Nat → Nat) (a : AS) (hd th : Nat) (rg cm co : Nat → Int32) (x : Int32) (h9 : inR x 100) : kMi l yX4_kindOf wsX4_kindOf 1 21 D (TY cI cZ) [.ref (q 50), .int x] [(q 50, .inr (4, [.int (nI (a.1 0)), .int (nI (a.1 1)), .int (nI (a.1 2)), .int (nI (a.1 3)), .ref (q 54), .ref (q 55), .int (nI hd), .int (nI (a.1 4)), .int (nI (a.1 5)), .int (nI (a.1 6)), .int (nI (a.1 7)), .ref (q 61), .ref (q 62), .ref (q 63), .int (nI (a.1 8)), .ref (q 65), .ref (q 66), .int (nI (a.1 9)), .int (nI (a.1 10)), .int (nI (a.1 11)), .int (nI (a.1 12)), .int (nI th)])), (q 54, .inl (cI, 32, .inl rg)), (q 55, .inl (cI, 32, .inl cm)), (q 61, .inl (cZ, 300, .inl (a.2 2))), (q 62, .inl (cZ, 300, .inl (a.2 3))), (q 63, .inl (cI, 300, .inl (a.2 4))), (q 65, .inl (cI, 100, .inl (a.2 5))), (q 66, .inl (cZ, 100, .inl co))] (fun (r : Int32) (_ : Unit) => r = (if x.toNatClampNeg % 6 = 0 then nI 0 else (if x.toNatClampNeg % 3 = 0 then nI 1 else nI 2))) (fun (_ : Unit) => MW cI cZ q a hd rg cm 0 co) := by
  intro sz
  refine k_in (Qc := fun A => va_Qi (fun (r : Int32) (_ : Unit) => r = (if x.toNatClampNeg % 6 = 0 then nI 0 else (if x.toNatClampNeg % 3 = 0 then nI 1 else nI 2))) (kB D A (fun (_ : Unit) => MW cI cZ q a hd rg cm 0 co)) A) (cc := cX4_kindOf) (maxL := 2) (ret := (some .int)) (by decide) rfl (Nat.le_of_ble_eq_true rfl) ?_
  intro p e s m below meth c A ls hfix hr hlk hN hP hK hD hA hS hl
  have hfix : CallFix p m c cX4_kindOf 2 s [.ref (q 50), .int x].toArray wsX4_kindOf RX4 := hfix
  have hl : lv_has ls 2 [(0, .ref (q 50)), (1, .int x)] := hl
  obtain ⟨hx, hb, hml, hown, hts⟩ := id hfix
  have hP : va_P D vwCl [(q 50, .inr (4, [.int (nI (a.1 0)), .int (nI (a.1 1)), .int (nI (a.1 2)), .int (nI (a.1 3)), .ref (q 54), .ref (q 55), .int (nI hd), .int (nI (a.1 4)), .int (nI (a.1 5)), .int (nI (a.1 6)), .int (nI (a.1 7)), .ref (q 61), .ref (q 62), .ref (q 63), .int (nI (a.1 8)), .ref (q 65), .ref (q 66), .int (nI (a.1 9)), .int (nI (a.1 10)), .int (nI (a.1 11)), .int (nI (a.1 12)), .int (nI th)])), (q 54, .inl (cI, 32, .inl rg)), (q 55, .inl (cI, 32, .inl cm)), (q 61, .inl (cZ, 300, .inl (a.2 2))), (q 62, .inl (cZ, 300, .inl (a.2 3))), (q 63, .inl (cI, 300, .inl (a.2 4))), (q 65, .inl (cI, 100, .inl (a.2 5))), (q 66, .inl (cZ, 100, .inl co))] s.heap := hP
  have hD : va_D A [(q 50, .inr (4, [.int (nI (a.1 0)), .int (nI (a.1 1)), .int (nI (a.1 2)), .int (nI (a.1 3)), .ref (q 54), .ref (q 55), .int (nI hd), .int (nI (a.1 4)), .int (nI (a.1 5)), .int (nI (a.1 6)), .int (nI (a.1 7)), .ref (q 61), .ref (q 62), .ref (q 63), .int (nI (a.1 8)), .ref (q 65), .ref (q 66), .int (nI (a.1 9)), .int (nI (a.1 10)), .int (nI (a.1 11)), .int (nI (a.1 12)), .int (nI th)])), (q 54, .inl (cI, 32, .inl rg)), (q 55, .inl (cI, 32, .inl cm)), (q 61, .inl (cZ, 300, .inl (a.2 2))), (q 62, .inl (cZ, 300, .inl (a.2 3))), (q 63, .inl (cI, 300, .inl (a.2 4))), (q 65, .inl (cI, 100, .inl (a.2 5))), (q 66, .inl (cZ, 100, .inl co))] := hD
  have hS : ∃ (H : Heap) (locs : List Loc), H = s.heap ∧ locs = [] ∧ va_S A s.heap H locs := ⟨_, _, rfl, rfl, hS⟩
  obtain ⟨H, locs, hH, hlocs, hS⟩ := hS
  rw [← hH] at hP
  suffices hW9 : W p l e ({ frames := 1, cells := 0, slots := 0, locals := 21 } : Room) s m [.ref (q 50), .int x].toArray below meth c H locs 0 0 (MQ below (va_Qi (fun (r : Int32) (_ : Unit) => r = (if x.toNatClampNeg % 6 = 0 then nI 0 else (if x.toNatClampNeg % 3 = 0 then nI 1 else nI 2))) (kB D A (fun (_ : Unit) => MW cI cZ q a hd rg cm 0 co)) A) [.ref (q 50), .int x].toArray s 0 0 A) (F0 m 0 ls []) by rw [hH, hlocs] at hW9; exact hW9
  clear hH hlocs
  refine lv_aload_n hx hb dX4_kindOf_0 rfl (lv_at hl 0 rfl) ?_
  refine lv_iload_n hx hb dX4_kindOf_1 rfl (lv_at hl 1 rfl) ?_
  refine k_callSi (n := 1) (As := [.int x]) (rest := [.ref (q 50)]) hfix hN hK hP hD hS hA hl.1 (c_X4_isFrame l D cI cZ (x)) (fun _ => rfl) gX4_kindOf_X4_isFrame rfl (by decide +kernel) rfl ⟨Nat.le_of_ble_eq_true rfl, Nat.le_of_ble_eq_true rfl⟩ [0, 1, 2, 3, 4, 5, 6, 7] rfl (by decide) rfl (Nat.le_of_ble_eq_true rfl) ⟨Nat.zero_le _, Nat.zero_le _⟩ dX4_kindOf_2 (fun r_2 u H locs hw_2 hP hD hS => ?_)
  have e_2 : (inR (x) 100) := h9
  rw [if_pos e_2] at hw_2
  obtain rfl : r_2 = nI 1 := hw_2
  refine k_callVi (n := 1) (wr := []) (As := [.int (nI 1)]) (rest := []) hfix hN hK hP hD hS hA hl.1 (c_X4_asks1 l D cI cZ q a hd th rg cm co ) gX4_kindOf_X4_asks rfl (by decide +kernel) rfl ⟨Nat.le_of_ble_eq_true rfl, Nat.le_of_ble_eq_true rfl⟩ [0, 1, 2, 3, 4, 5, 6, 7] [] rfl rfl (by decide) (by decide) (by decide) 0 rfl rfl rfl (Nat.le_of_ble_eq_true rfl) ⟨Nat.zero_le _, Nat.zero_le _⟩ dX4_kindOf_5 (fun r_5 u H locs hw_5 hP hD hS => ?_)
  have hP : va_P D vwCl [(q 50, .inr (4, [.int (nI (a.1 0)), .int (nI (a.1 1)), .int (nI (a.1 2)), .int (nI (a.1 3)), .ref (q 54), .ref (q 55), .int (nI hd), .int (nI (a.1 4)), .int (nI (a.1 5)), .int (nI (a.1 6)), .int (nI (a.1 7)), .ref (q 61), .ref (q 62), .ref (q 63), .int (nI (a.1 8)), .ref (q 65), .ref (q 66), .int (nI (a.1 9)), .int (nI (a.1 10)), .int (nI (a.1 11)), .int (nI (a.1 12)), .int (nI 0)])), (q 54, .inl (cI, 32, .inl rg)), (q 55, .inl (cI, 32, .inl cm)), (q 61, .inl (cZ, 300, .inl (a.2 2))), (q 62, .inl (cZ, 300, .inl (a.2 3))), (q 63, .inl (cI, 300, .inl (a.2 4))), (q 65, .inl (cI, 100, .inl (a.2 5))), (q 66, .inl (cZ, 100, .inl co))] H := hP.sub [0, 1, 2, 3, 4, 5, 6, 7] rfl
  have hD : va_D A [(q 50, .inr (4, [.int (nI (a.1 0)), .int (nI (a.1 1)), .int (nI (a.1 2)), .int (nI (a.1 3)), .ref (q 54), .ref (q 55), .int (nI hd), .int (nI (a.1 4)), .int (nI (a.1 5)), .int (nI (a.1 6)), .int (nI (a.1 7)), .ref (q 61), .ref (q 62), .ref (q 63), .int (nI (a.1 8)), .ref (q 65), .ref (q 66), .int (nI (a.1 9)), .int (nI (a.1 10)), .int (nI (a.1 11)), .int (nI (a.1 12)), .int (nI 0)])), (q 54, .inl (cI, 32, .inl rg)), (q 55, .inl (cI, 32, .inl cm)), (q 61, .inl (cZ, 300, .inl (a.2 2))), (q 62, .inl (cZ, 300, .inl (a.2 3))), (q 63, .inl (cI, 300, .inl (a.2 4))), (q 65, .inl (cI, 100, .inl (a.2 5))), (q 66, .inl (cZ, 100, .inl co))] := hD.sub [0, 1, 2, 3, 4, 5, 6, 7] (by decide) rfl
  obtain rfl : r_5 = nI 1 := hw_5
  refine k_if_eq (tgt := 18) hx hb (by decide) dX4_kindOf_8 (by decide) (fun q => absurd q (by decide)) (fun _ => ?_)
  have hq9 : x.toNatClampNeg < 100 := inR_lt (by decide) h9
  have hn9 : x = nI x.toNatClampNeg := inR_eq (by decide) h9
  have hl : lv_has ls 2 [(0, .ref (q 50)), (1, .int (nI x.toNatClampNeg))] := by rw [← hn9]; exact hl
  refine lv_iload_n hx hb dX4_kindOf_11 rfl (lv_at hl 1 rfl) ?_
  refine k_callSi (n := 1) (As := [.int (nI x.toNatClampNeg)]) (rest := []) hfix hN hK hP hD hS hA hl.1 (c_X4_kind l D cI cZ x.toNatClampNeg (by omega)) (fun _ => rfl) gX4_kindOf_X4_kind rfl (by decide +kernel) rfl ⟨Nat.le_of_ble_eq_true rfl, Nat.le_of_ble_eq_true rfl⟩ [0, 1, 2, 3, 4, 5, 6, 7] rfl (by decide) rfl (Nat.le_of_ble_eq_true rfl) ⟨Nat.zero_le _, Nat.zero_le _⟩ dX4_kindOf_12 (fun r_12 u H locs hw_12 hP hD hS => ?_)
  by_cases e_12 : x.toNatClampNeg % 6 = 0
  · rw [if_pos e_12] at hw_12
    obtain rfl : r_12 = nI 0 := hw_12
    refine lv_goto (tgt := 19) hx hb dX4_kindOf_15 (by decide) ?_
    exact k_iret (v := nI 0) hx hb hr hlk rfl () ((if_pos e_12).symm) hP hD hS dX4_kindOf_19
  · rw [if_neg e_12] at hw_12
    by_cases e_12_1 : x.toNatClampNeg % 3 = 0
    · rw [if_pos e_12_1] at hw_12
      obtain rfl : r_12 = nI 1 := hw_12
      refine lv_goto (tgt := 19) hx hb dX4_kindOf_15 (by decide) ?_
      exact k_iret (v := nI 1) hx hb hr hlk rfl () (by rw [if_neg e_12, if_pos e_12_1]) hP hD hS dX4_kindOf_19
    · rw [if_neg e_12_1] at hw_12
      obtain rfl : r_12 = nI 2 := hw_12
      refine lv_goto (tgt := 19) hx hb dX4_kindOf_15 (by decide) ?_
      exact k_iret (v := nI 2) hx hb hr hlk rfl () (by rw [if_neg e_12, if_neg e_12_1]) hP hD hS dX4_kindOf_19
set_option maxHeartbeats 4000000 in
set_option maxRecDepth 100000 in
theorem c_X4_kindOf_no (l : Launch) (D : va_G) (cI cZ : ClassId) (q : Nat → Nat) (a : AS) (hd th : Nat) (rg cm co : Nat → Int32) (x : Int32) (h9 : ¬ (inR x 100)) : kMi l yX4_kindOf wsX4_kindOf 1 21 D (TY cI cZ) [.ref (q 50), .int x] [(q 50, .inr (4, [.int (nI (a.1 0)), .int (nI (a.1 1)), .int (nI (a.1 2)), .int (nI (a.1 3)), .ref (q 54), .ref (q 55), .int (nI hd), .int (nI (a.1 4)), .int (nI (a.1 5)), .int (nI (a.1 6)), .int (nI (a.1 7)), .ref (q 61), .ref (q 62), .ref (q 63), .int (nI (a.1 8)), .ref (q 65), .ref (q 66), .int (nI (a.1 9)), .int (nI (a.1 10)), .int (nI (a.1 11)), .int (nI (a.1 12)), .int (nI th)])), (q 54, .inl (cI, 32, .inl rg)), (q 55, .inl (cI, 32, .inl cm)), (q 61, .inl (cZ, 300, .inl (a.2 2))), (q 62, .inl (cZ, 300, .inl (a.2 3))), (q 63, .inl (cI, 300, .inl (a.2 4))), (q 65, .inl (cI, 100, .inl (a.2 5))), (q 66, .inl (cZ, 100, .inl co))] (fun (r : Int32) (_ : Unit) => r = nI 0) (fun (_ : Unit) => MW cI cZ q a hd rg cm 1 co) := by
  intro sz
  refine k_in (Qc := fun A => va_Qi (fun (r : Int32) (_ : Unit) => r = nI 0) (kB D A (fun (_ : Unit) => MW cI cZ q a hd rg cm 1 co)) A) (cc := cX4_kindOf) (maxL := 2) (ret := (some .int)) (by decide) rfl (Nat.le_of_ble_eq_true rfl) ?_
  intro p e s m below meth c A ls hfix hr hlk hN hP hK hD hA hS hl
  have hfix : CallFix p m c cX4_kindOf 2 s [.ref (q 50), .int x].toArray wsX4_kindOf RX4 := hfix
  have hl : lv_has ls 2 [(0, .ref (q 50)), (1, .int x)] := hl
  obtain ⟨hx, hb, hml, hown, hts⟩ := id hfix
  have hP : va_P D vwCl [(q 50, .inr (4, [.int (nI (a.1 0)), .int (nI (a.1 1)), .int (nI (a.1 2)), .int (nI (a.1 3)), .ref (q 54), .ref (q 55), .int (nI hd), .int (nI (a.1 4)), .int (nI (a.1 5)), .int (nI (a.1 6)), .int (nI (a.1 7)), .ref (q 61), .ref (q 62), .ref (q 63), .int (nI (a.1 8)), .ref (q 65), .ref (q 66), .int (nI (a.1 9)), .int (nI (a.1 10)), .int (nI (a.1 11)), .int (nI (a.1 12)), .int (nI th)])), (q 54, .inl (cI, 32, .inl rg)), (q 55, .inl (cI, 32, .inl cm)), (q 61, .inl (cZ, 300, .inl (a.2 2))), (q 62, .inl (cZ, 300, .inl (a.2 3))), (q 63, .inl (cI, 300, .inl (a.2 4))), (q 65, .inl (cI, 100, .inl (a.2 5))), (q 66, .inl (cZ, 100, .inl co))] s.heap := hP
  have hD : va_D A [(q 50, .inr (4, [.int (nI (a.1 0)), .int (nI (a.1 1)), .int (nI (a.1 2)), .int (nI (a.1 3)), .ref (q 54), .ref (q 55), .int (nI hd), .int (nI (a.1 4)), .int (nI (a.1 5)), .int (nI (a.1 6)), .int (nI (a.1 7)), .ref (q 61), .ref (q 62), .ref (q 63), .int (nI (a.1 8)), .ref (q 65), .ref (q 66), .int (nI (a.1 9)), .int (nI (a.1 10)), .int (nI (a.1 11)), .int (nI (a.1 12)), .int (nI th)])), (q 54, .inl (cI, 32, .inl rg)), (q 55, .inl (cI, 32, .inl cm)), (q 61, .inl (cZ, 300, .inl (a.2 2))), (q 62, .inl (cZ, 300, .inl (a.2 3))), (q 63, .inl (cI, 300, .inl (a.2 4))), (q 65, .inl (cI, 100, .inl (a.2 5))), (q 66, .inl (cZ, 100, .inl co))] := hD
  have hS : ∃ (H : Heap) (locs : List Loc), H = s.heap ∧ locs = [] ∧ va_S A s.heap H locs := ⟨_, _, rfl, rfl, hS⟩
  obtain ⟨H, locs, hH, hlocs, hS⟩ := hS
  rw [← hH] at hP
  suffices hW9 : W p l e ({ frames := 1, cells := 0, slots := 0, locals := 21 } : Room) s m [.ref (q 50), .int x].toArray below meth c H locs 0 0 (MQ below (va_Qi (fun (r : Int32) (_ : Unit) => r = nI 0) (kB D A (fun (_ : Unit) => MW cI cZ q a hd rg cm 1 co)) A) [.ref (q 50), .int x].toArray s 0 0 A) (F0 m 0 ls []) by rw [hH, hlocs] at hW9; exact hW9
  clear hH hlocs
  refine lv_aload_n hx hb dX4_kindOf_0 rfl (lv_at hl 0 rfl) ?_
  refine lv_iload_n hx hb dX4_kindOf_1 rfl (lv_at hl 1 rfl) ?_
  refine k_callSi (n := 1) (As := [.int x]) (rest := [.ref (q 50)]) hfix hN hK hP hD hS hA hl.1 (c_X4_isFrame l D cI cZ (x)) (fun _ => rfl) gX4_kindOf_X4_isFrame rfl (by decide +kernel) rfl ⟨Nat.le_of_ble_eq_true rfl, Nat.le_of_ble_eq_true rfl⟩ [0, 1, 2, 3, 4, 5, 6, 7] rfl (by decide) rfl (Nat.le_of_ble_eq_true rfl) ⟨Nat.zero_le _, Nat.zero_le _⟩ dX4_kindOf_2 (fun r_2 u H locs hw_2 hP hD hS => ?_)
  have e_2 : ¬ (inR (x) 100) := h9
  rw [if_neg e_2] at hw_2
  obtain rfl : r_2 = nI 0 := hw_2
  refine k_callVi (n := 1) (wr := []) (As := [.int (nI 0)]) (rest := []) hfix hN hK hP hD hS hA hl.1 (c_X4_asks0 l D cI cZ q a hd th rg cm co ) gX4_kindOf_X4_asks rfl (by decide +kernel) rfl ⟨Nat.le_of_ble_eq_true rfl, Nat.le_of_ble_eq_true rfl⟩ [0, 1, 2, 3, 4, 5, 6, 7] [] rfl rfl (by decide) (by decide) (by decide) 0 rfl rfl rfl (Nat.le_of_ble_eq_true rfl) ⟨Nat.zero_le _, Nat.zero_le _⟩ dX4_kindOf_5 (fun r_5 u H locs hw_5 hP hD hS => ?_)
  have hP : va_P D vwCl [(q 50, .inr (4, [.int (nI (a.1 0)), .int (nI (a.1 1)), .int (nI (a.1 2)), .int (nI (a.1 3)), .ref (q 54), .ref (q 55), .int (nI hd), .int (nI (a.1 4)), .int (nI (a.1 5)), .int (nI (a.1 6)), .int (nI (a.1 7)), .ref (q 61), .ref (q 62), .ref (q 63), .int (nI (a.1 8)), .ref (q 65), .ref (q 66), .int (nI (a.1 9)), .int (nI (a.1 10)), .int (nI (a.1 11)), .int (nI (a.1 12)), .int (nI 1)])), (q 54, .inl (cI, 32, .inl rg)), (q 55, .inl (cI, 32, .inl cm)), (q 61, .inl (cZ, 300, .inl (a.2 2))), (q 62, .inl (cZ, 300, .inl (a.2 3))), (q 63, .inl (cI, 300, .inl (a.2 4))), (q 65, .inl (cI, 100, .inl (a.2 5))), (q 66, .inl (cZ, 100, .inl co))] H := hP.sub [0, 1, 2, 3, 4, 5, 6, 7] rfl
  have hD : va_D A [(q 50, .inr (4, [.int (nI (a.1 0)), .int (nI (a.1 1)), .int (nI (a.1 2)), .int (nI (a.1 3)), .ref (q 54), .ref (q 55), .int (nI hd), .int (nI (a.1 4)), .int (nI (a.1 5)), .int (nI (a.1 6)), .int (nI (a.1 7)), .ref (q 61), .ref (q 62), .ref (q 63), .int (nI (a.1 8)), .ref (q 65), .ref (q 66), .int (nI (a.1 9)), .int (nI (a.1 10)), .int (nI (a.1 11)), .int (nI (a.1 12)), .int (nI 1)])), (q 54, .inl (cI, 32, .inl rg)), (q 55, .inl (cI, 32, .inl cm)), (q 61, .inl (cZ, 300, .inl (a.2 2))), (q 62, .inl (cZ, 300, .inl (a.2 3))), (q 63, .inl (cI, 300, .inl (a.2 4))), (q 65, .inl (cI, 100, .inl (a.2 5))), (q 66, .inl (cZ, 100, .inl co))] := hD.sub [0, 1, 2, 3, 4, 5, 6, 7] (by decide) rfl
  obtain rfl : r_5 = nI 0 := hw_5
  refine k_if_eq (tgt := 18) hx hb (by decide) dX4_kindOf_8 (by decide) (fun _ => ?_) (fun q => absurd q (by decide))
  refine lv_iconst (v := nI 0) hx hb dX4_kindOf_18 (by decide) ?_
  exact k_iret (v := nI 0) hx hb hr hlk rfl () rfl hP hD hS dX4_kindOf_19
set_option maxHeartbeats 4000000 in
set_option maxRecDepth 100000 in
theorem c_X4_need_ok (l : Launch) (D : va_G) (cI cZ : ClassId) (q : Nat → Nat) (a : AS) (hd th : Nat) (rg cm co : Nat → Int32) (x y : Int32) (h9 : inR x 100) : kMi l yX4_need wsX4_need 2 41 D (TY cI cZ) [.ref (q 50), .int x, .int y] [(q 50, .inr (4, [.int (nI (a.1 0)), .int (nI (a.1 1)), .int (nI (a.1 2)), .int (nI (a.1 3)), .ref (q 54), .ref (q 55), .int (nI hd), .int (nI (a.1 4)), .int (nI (a.1 5)), .int (nI (a.1 6)), .int (nI (a.1 7)), .ref (q 61), .ref (q 62), .ref (q 63), .int (nI (a.1 8)), .ref (q 65), .ref (q 66), .int (nI (a.1 9)), .int (nI (a.1 10)), .int (nI (a.1 11)), .int (nI (a.1 12)), .int (nI th)])), (q 54, .inl (cI, 32, .inl rg)), (q 55, .inl (cI, 32, .inl cm)), (q 61, .inl (cZ, 300, .inl (a.2 2))), (q 62, .inl (cZ, 300, .inl (a.2 3))), (q 63, .inl (cI, 300, .inl (a.2 4))), (q 65, .inl (cI, 100, .inl (a.2 5))), (q 66, .inl (cZ, 100, .inl co))] (fun (r : Int32) (_ : Unit) => r = (if y = 0 then (if x.toNatClampNeg % 6 = 0 then (-1) else nI (bef x.toNatClampNeg)) else (if x.toNatClampNeg % 3 = 0 then (-1) else nI (beh x.toNatClampNeg)))) (fun (_ : Unit) => MW cI cZ q a hd rg cm 0 co) := by
  intro sz
  refine k_in (Qc := fun A => va_Qi (fun (r : Int32) (_ : Unit) => r = (if y = 0 then (if x.toNatClampNeg % 6 = 0 then (-1) else nI (bef x.toNatClampNeg)) else (if x.toNatClampNeg % 3 = 0 then (-1) else nI (beh x.toNatClampNeg)))) (kB D A (fun (_ : Unit) => MW cI cZ q a hd rg cm 0 co)) A) (cc := cX4_need) (maxL := 3) (ret := (some .int)) (by decide) rfl (Nat.le_of_ble_eq_true rfl) ?_
  intro p e s m below meth c A ls hfix hr hlk hN hP hK hD hA hS hl
  have hfix : CallFix p m c cX4_need 3 s [.ref (q 50), .int x, .int y].toArray wsX4_need RX4 := hfix
  have hl : lv_has ls 3 [(0, .ref (q 50)), (1, .int x), (2, .int y)] := hl
  obtain ⟨hx, hb, hml, hown, hts⟩ := id hfix
  have hP : va_P D vwCl [(q 50, .inr (4, [.int (nI (a.1 0)), .int (nI (a.1 1)), .int (nI (a.1 2)), .int (nI (a.1 3)), .ref (q 54), .ref (q 55), .int (nI hd), .int (nI (a.1 4)), .int (nI (a.1 5)), .int (nI (a.1 6)), .int (nI (a.1 7)), .ref (q 61), .ref (q 62), .ref (q 63), .int (nI (a.1 8)), .ref (q 65), .ref (q 66), .int (nI (a.1 9)), .int (nI (a.1 10)), .int (nI (a.1 11)), .int (nI (a.1 12)), .int (nI th)])), (q 54, .inl (cI, 32, .inl rg)), (q 55, .inl (cI, 32, .inl cm)), (q 61, .inl (cZ, 300, .inl (a.2 2))), (q 62, .inl (cZ, 300, .inl (a.2 3))), (q 63, .inl (cI, 300, .inl (a.2 4))), (q 65, .inl (cI, 100, .inl (a.2 5))), (q 66, .inl (cZ, 100, .inl co))] s.heap := hP
  have hD : va_D A [(q 50, .inr (4, [.int (nI (a.1 0)), .int (nI (a.1 1)), .int (nI (a.1 2)), .int (nI (a.1 3)), .ref (q 54), .ref (q 55), .int (nI hd), .int (nI (a.1 4)), .int (nI (a.1 5)), .int (nI (a.1 6)), .int (nI (a.1 7)), .ref (q 61), .ref (q 62), .ref (q 63), .int (nI (a.1 8)), .ref (q 65), .ref (q 66), .int (nI (a.1 9)), .int (nI (a.1 10)), .int (nI (a.1 11)), .int (nI (a.1 12)), .int (nI th)])), (q 54, .inl (cI, 32, .inl rg)), (q 55, .inl (cI, 32, .inl cm)), (q 61, .inl (cZ, 300, .inl (a.2 2))), (q 62, .inl (cZ, 300, .inl (a.2 3))), (q 63, .inl (cI, 300, .inl (a.2 4))), (q 65, .inl (cI, 100, .inl (a.2 5))), (q 66, .inl (cZ, 100, .inl co))] := hD
  have hS : ∃ (H : Heap) (locs : List Loc), H = s.heap ∧ locs = [] ∧ va_S A s.heap H locs := ⟨_, _, rfl, rfl, hS⟩
  obtain ⟨H, locs, hH, hlocs, hS⟩ := hS
  rw [← hH] at hP
  suffices hW9 : W p l e ({ frames := 2, cells := 0, slots := 0, locals := 41 } : Room) s m [.ref (q 50), .int x, .int y].toArray below meth c H locs 0 0 (MQ below (va_Qi (fun (r : Int32) (_ : Unit) => r = (if y = 0 then (if x.toNatClampNeg % 6 = 0 then (-1) else nI (bef x.toNatClampNeg)) else (if x.toNatClampNeg % 3 = 0 then (-1) else nI (beh x.toNatClampNeg)))) (kB D A (fun (_ : Unit) => MW cI cZ q a hd rg cm 0 co)) A) [.ref (q 50), .int x, .int y].toArray s 0 0 A) (F0 m 0 ls []) by rw [hH, hlocs] at hW9; exact hW9
  clear hH hlocs
  refine lv_aload_n hx hb dX4_need_0 rfl (lv_at hl 0 rfl) ?_
  refine lv_iload_n hx hb dX4_need_1 rfl (lv_at hl 1 rfl) ?_
  refine k_callSi (n := 1) (As := [.int x]) (rest := [.ref (q 50)]) hfix hN hK hP hD hS hA hl.1 (c_X4_isFrame l D cI cZ (x)) (fun _ => rfl) gX4_need_X4_isFrame rfl (by decide +kernel) rfl ⟨Nat.le_of_ble_eq_true rfl, Nat.le_of_ble_eq_true rfl⟩ [0, 1, 2, 3, 4, 5, 6, 7] rfl (by decide) rfl (Nat.le_of_ble_eq_true rfl) ⟨Nat.zero_le _, Nat.zero_le _⟩ dX4_need_2 (fun r_2 u H locs hw_2 hP hD hS => ?_)
  have e_2 : (inR (x) 100) := h9
  rw [if_pos e_2] at hw_2
  obtain rfl : r_2 = nI 1 := hw_2
  refine k_callVi (n := 1) (wr := []) (As := [.int (nI 1)]) (rest := []) hfix hN hK hP hD hS hA hl.1 (c_X4_asks1 l D cI cZ q a hd th rg cm co ) gX4_need_X4_asks rfl (by decide +kernel) rfl ⟨Nat.le_of_ble_eq_true rfl, Nat.le_of_ble_eq_true rfl⟩ [0, 1, 2, 3, 4, 5, 6, 7] [] rfl rfl (by decide) (by decide) (by decide) 0 rfl rfl rfl (Nat.le_of_ble_eq_true rfl) ⟨Nat.zero_le _, Nat.zero_le _⟩ dX4_need_5 (fun r_5 u H locs hw_5 hP hD hS => ?_)
  have hP : va_P D vwCl [(q 50, .inr (4, [.int (nI (a.1 0)), .int (nI (a.1 1)), .int (nI (a.1 2)), .int (nI (a.1 3)), .ref (q 54), .ref (q 55), .int (nI hd), .int (nI (a.1 4)), .int (nI (a.1 5)), .int (nI (a.1 6)), .int (nI (a.1 7)), .ref (q 61), .ref (q 62), .ref (q 63), .int (nI (a.1 8)), .ref (q 65), .ref (q 66), .int (nI (a.1 9)), .int (nI (a.1 10)), .int (nI (a.1 11)), .int (nI (a.1 12)), .int (nI 0)])), (q 54, .inl (cI, 32, .inl rg)), (q 55, .inl (cI, 32, .inl cm)), (q 61, .inl (cZ, 300, .inl (a.2 2))), (q 62, .inl (cZ, 300, .inl (a.2 3))), (q 63, .inl (cI, 300, .inl (a.2 4))), (q 65, .inl (cI, 100, .inl (a.2 5))), (q 66, .inl (cZ, 100, .inl co))] H := hP.sub [0, 1, 2, 3, 4, 5, 6, 7] rfl
  have hD : va_D A [(q 50, .inr (4, [.int (nI (a.1 0)), .int (nI (a.1 1)), .int (nI (a.1 2)), .int (nI (a.1 3)), .ref (q 54), .ref (q 55), .int (nI hd), .int (nI (a.1 4)), .int (nI (a.1 5)), .int (nI (a.1 6)), .int (nI (a.1 7)), .ref (q 61), .ref (q 62), .ref (q 63), .int (nI (a.1 8)), .ref (q 65), .ref (q 66), .int (nI (a.1 9)), .int (nI (a.1 10)), .int (nI (a.1 11)), .int (nI (a.1 12)), .int (nI 0)])), (q 54, .inl (cI, 32, .inl rg)), (q 55, .inl (cI, 32, .inl cm)), (q 61, .inl (cZ, 300, .inl (a.2 2))), (q 62, .inl (cZ, 300, .inl (a.2 3))), (q 63, .inl (cI, 300, .inl (a.2 4))), (q 65, .inl (cI, 100, .inl (a.2 5))), (q 66, .inl (cZ, 100, .inl co))] := hD.sub [0, 1, 2, 3, 4, 5, 6, 7] (by decide) rfl
  obtain rfl : r_5 = nI 1 := hw_5
  refine k_if_ne (tgt := 15) hx hb (by decide) dX4_need_8 (by decide) (fun _ => ?_) (fun q => absurd q (by decide))
  have hq9 : x.toNatClampNeg < 100 := inR_lt (by decide) h9
  have hn9 : x = nI x.toNatClampNeg := inR_eq (by decide) h9
  have hl : lv_has ls 3 [(0, .ref (q 50)), (1, .int (nI x.toNatClampNeg)), (2, .int y)] := by rw [← hn9]; exact hl
  refine lv_iload_n hx hb dX4_need_15 rfl (lv_at hl 2 rfl) ?_
  refine lv_if_eq (tgt := 26) hx hb dX4_need_16 (by decide) (fun c_16 => ?_) (fun c_16 => ?_)
  · -- c_16 taken
    refine lv_iload_n hx hb dX4_need_26 rfl (lv_at hl 1 rfl) ?_
    refine k_callSi (n := 1) (As := [.int (nI x.toNatClampNeg)]) (rest := []) hfix hN hK hP hD hS hA hl.1 (c_X4_before l D cI cZ x.toNatClampNeg (by omega)) (fun _ => rfl) gX4_need_X4_before rfl (by decide +kernel) rfl ⟨Nat.le_of_ble_eq_true rfl, Nat.le_of_ble_eq_true rfl⟩ [0, 1, 2, 3, 4, 5, 6, 7] rfl (by decide) rfl (Nat.le_of_ble_eq_true rfl) ⟨Nat.zero_le _, Nat.zero_le _⟩ dX4_need_27 (fun r_27 u H locs hw_27 hP hD hS => ?_)
    by_cases e_27 : x.toNatClampNeg % 6 = 0
    · rw [if_pos e_27] at hw_27
      obtain rfl : r_27 = (-1) := hw_27
      exact k_iret (v := (-1)) hx hb hr hlk rfl () (by rw [if_pos c_16, if_pos e_27]) hP hD hS dX4_need_30
    · rw [if_neg e_27] at hw_27
      obtain rfl : r_27 = nI (bef x.toNatClampNeg) := hw_27
      exact k_iret (v := nI (bef x.toNatClampNeg)) hx hb hr hlk rfl () (by rw [if_pos c_16, if_neg e_27]) hP hD hS dX4_need_30
  · -- c_16 not taken
    refine lv_iload_n hx hb dX4_need_19 rfl (lv_at hl 1 rfl) ?_
    refine k_callSi (n := 1) (As := [.int (nI x.toNatClampNeg)]) (rest := []) hfix hN hK hP hD hS hA hl.1 (c_X4_behind l D cI cZ x.toNatClampNeg (by omega)) (fun _ => rfl) gX4_need_X4_behind rfl (by decide +kernel) rfl ⟨Nat.le_of_ble_eq_true rfl, Nat.le_of_ble_eq_true rfl⟩ [0, 1, 2, 3, 4, 5, 6, 7] rfl (by decide) rfl (Nat.le_of_ble_eq_true rfl) ⟨Nat.zero_le _, Nat.zero_le _⟩ dX4_need_20 (fun r_20 u H locs hw_20 hP hD hS => ?_)
    by_cases e_20 : x.toNatClampNeg % 3 = 0
    · rw [if_pos e_20] at hw_20
      obtain rfl : r_20 = (-1) := hw_20
      refine lv_goto (tgt := 30) hx hb dX4_need_23 (by decide) ?_
      exact k_iret (v := (-1)) hx hb hr hlk rfl () (by rw [if_neg c_16, if_pos e_20]) hP hD hS dX4_need_30
    · rw [if_neg e_20] at hw_20
      obtain rfl : r_20 = nI (beh x.toNatClampNeg) := hw_20
      refine lv_goto (tgt := 30) hx hb dX4_need_23 (by decide) ?_
      exact k_iret (v := nI (beh x.toNatClampNeg)) hx hb hr hlk rfl () (by rw [if_neg c_16, if_neg e_20]) hP hD hS dX4_need_30
set_option maxHeartbeats 4000000 in
set_option maxRecDepth 100000 in
theorem c_X4_need_no (l : Launch) (D : va_G) (cI cZ : ClassId) (q : Nat → Nat) (a : AS) (hd th : Nat) (rg cm co : Nat → Int32) (x y : Int32) (h9 : ¬ (inR x 100)) : kMi l yX4_need wsX4_need 2 41 D (TY cI cZ) [.ref (q 50), .int x, .int y] [(q 50, .inr (4, [.int (nI (a.1 0)), .int (nI (a.1 1)), .int (nI (a.1 2)), .int (nI (a.1 3)), .ref (q 54), .ref (q 55), .int (nI hd), .int (nI (a.1 4)), .int (nI (a.1 5)), .int (nI (a.1 6)), .int (nI (a.1 7)), .ref (q 61), .ref (q 62), .ref (q 63), .int (nI (a.1 8)), .ref (q 65), .ref (q 66), .int (nI (a.1 9)), .int (nI (a.1 10)), .int (nI (a.1 11)), .int (nI (a.1 12)), .int (nI th)])), (q 54, .inl (cI, 32, .inl rg)), (q 55, .inl (cI, 32, .inl cm)), (q 61, .inl (cZ, 300, .inl (a.2 2))), (q 62, .inl (cZ, 300, .inl (a.2 3))), (q 63, .inl (cI, 300, .inl (a.2 4))), (q 65, .inl (cI, 100, .inl (a.2 5))), (q 66, .inl (cZ, 100, .inl co))] (fun (r : Int32) (_ : Unit) => r = nI 0) (fun (_ : Unit) => MW cI cZ q a hd rg cm 1 co) := by
  intro sz
  refine k_in (Qc := fun A => va_Qi (fun (r : Int32) (_ : Unit) => r = nI 0) (kB D A (fun (_ : Unit) => MW cI cZ q a hd rg cm 1 co)) A) (cc := cX4_need) (maxL := 3) (ret := (some .int)) (by decide) rfl (Nat.le_of_ble_eq_true rfl) ?_
  intro p e s m below meth c A ls hfix hr hlk hN hP hK hD hA hS hl
  have hfix : CallFix p m c cX4_need 3 s [.ref (q 50), .int x, .int y].toArray wsX4_need RX4 := hfix
  have hl : lv_has ls 3 [(0, .ref (q 50)), (1, .int x), (2, .int y)] := hl
  obtain ⟨hx, hb, hml, hown, hts⟩ := id hfix
  have hP : va_P D vwCl [(q 50, .inr (4, [.int (nI (a.1 0)), .int (nI (a.1 1)), .int (nI (a.1 2)), .int (nI (a.1 3)), .ref (q 54), .ref (q 55), .int (nI hd), .int (nI (a.1 4)), .int (nI (a.1 5)), .int (nI (a.1 6)), .int (nI (a.1 7)), .ref (q 61), .ref (q 62), .ref (q 63), .int (nI (a.1 8)), .ref (q 65), .ref (q 66), .int (nI (a.1 9)), .int (nI (a.1 10)), .int (nI (a.1 11)), .int (nI (a.1 12)), .int (nI th)])), (q 54, .inl (cI, 32, .inl rg)), (q 55, .inl (cI, 32, .inl cm)), (q 61, .inl (cZ, 300, .inl (a.2 2))), (q 62, .inl (cZ, 300, .inl (a.2 3))), (q 63, .inl (cI, 300, .inl (a.2 4))), (q 65, .inl (cI, 100, .inl (a.2 5))), (q 66, .inl (cZ, 100, .inl co))] s.heap := hP
  have hD : va_D A [(q 50, .inr (4, [.int (nI (a.1 0)), .int (nI (a.1 1)), .int (nI (a.1 2)), .int (nI (a.1 3)), .ref (q 54), .ref (q 55), .int (nI hd), .int (nI (a.1 4)), .int (nI (a.1 5)), .int (nI (a.1 6)), .int (nI (a.1 7)), .ref (q 61), .ref (q 62), .ref (q 63), .int (nI (a.1 8)), .ref (q 65), .ref (q 66), .int (nI (a.1 9)), .int (nI (a.1 10)), .int (nI (a.1 11)), .int (nI (a.1 12)), .int (nI th)])), (q 54, .inl (cI, 32, .inl rg)), (q 55, .inl (cI, 32, .inl cm)), (q 61, .inl (cZ, 300, .inl (a.2 2))), (q 62, .inl (cZ, 300, .inl (a.2 3))), (q 63, .inl (cI, 300, .inl (a.2 4))), (q 65, .inl (cI, 100, .inl (a.2 5))), (q 66, .inl (cZ, 100, .inl co))] := hD
  have hS : ∃ (H : Heap) (locs : List Loc), H = s.heap ∧ locs = [] ∧ va_S A s.heap H locs := ⟨_, _, rfl, rfl, hS⟩
  obtain ⟨H, locs, hH, hlocs, hS⟩ := hS
  rw [← hH] at hP
  suffices hW9 : W p l e ({ frames := 2, cells := 0, slots := 0, locals := 41 } : Room) s m [.ref (q 50), .int x, .int y].toArray below meth c H locs 0 0 (MQ below (va_Qi (fun (r : Int32) (_ : Unit) => r = nI 0) (kB D A (fun (_ : Unit) => MW cI cZ q a hd rg cm 1 co)) A) [.ref (q 50), .int x, .int y].toArray s 0 0 A) (F0 m 0 ls []) by rw [hH, hlocs] at hW9; exact hW9
  clear hH hlocs
  refine lv_aload_n hx hb dX4_need_0 rfl (lv_at hl 0 rfl) ?_
  refine lv_iload_n hx hb dX4_need_1 rfl (lv_at hl 1 rfl) ?_
  refine k_callSi (n := 1) (As := [.int x]) (rest := [.ref (q 50)]) hfix hN hK hP hD hS hA hl.1 (c_X4_isFrame l D cI cZ (x)) (fun _ => rfl) gX4_need_X4_isFrame rfl (by decide +kernel) rfl ⟨Nat.le_of_ble_eq_true rfl, Nat.le_of_ble_eq_true rfl⟩ [0, 1, 2, 3, 4, 5, 6, 7] rfl (by decide) rfl (Nat.le_of_ble_eq_true rfl) ⟨Nat.zero_le _, Nat.zero_le _⟩ dX4_need_2 (fun r_2 u H locs hw_2 hP hD hS => ?_)
  have e_2 : ¬ (inR (x) 100) := h9
  rw [if_neg e_2] at hw_2
  obtain rfl : r_2 = nI 0 := hw_2
  refine k_callVi (n := 1) (wr := []) (As := [.int (nI 0)]) (rest := []) hfix hN hK hP hD hS hA hl.1 (c_X4_asks0 l D cI cZ q a hd th rg cm co ) gX4_need_X4_asks rfl (by decide +kernel) rfl ⟨Nat.le_of_ble_eq_true rfl, Nat.le_of_ble_eq_true rfl⟩ [0, 1, 2, 3, 4, 5, 6, 7] [] rfl rfl (by decide) (by decide) (by decide) 0 rfl rfl rfl (Nat.le_of_ble_eq_true rfl) ⟨Nat.zero_le _, Nat.zero_le _⟩ dX4_need_5 (fun r_5 u H locs hw_5 hP hD hS => ?_)
  have hP : va_P D vwCl [(q 50, .inr (4, [.int (nI (a.1 0)), .int (nI (a.1 1)), .int (nI (a.1 2)), .int (nI (a.1 3)), .ref (q 54), .ref (q 55), .int (nI hd), .int (nI (a.1 4)), .int (nI (a.1 5)), .int (nI (a.1 6)), .int (nI (a.1 7)), .ref (q 61), .ref (q 62), .ref (q 63), .int (nI (a.1 8)), .ref (q 65), .ref (q 66), .int (nI (a.1 9)), .int (nI (a.1 10)), .int (nI (a.1 11)), .int (nI (a.1 12)), .int (nI 1)])), (q 54, .inl (cI, 32, .inl rg)), (q 55, .inl (cI, 32, .inl cm)), (q 61, .inl (cZ, 300, .inl (a.2 2))), (q 62, .inl (cZ, 300, .inl (a.2 3))), (q 63, .inl (cI, 300, .inl (a.2 4))), (q 65, .inl (cI, 100, .inl (a.2 5))), (q 66, .inl (cZ, 100, .inl co))] H := hP.sub [0, 1, 2, 3, 4, 5, 6, 7] rfl
  have hD : va_D A [(q 50, .inr (4, [.int (nI (a.1 0)), .int (nI (a.1 1)), .int (nI (a.1 2)), .int (nI (a.1 3)), .ref (q 54), .ref (q 55), .int (nI hd), .int (nI (a.1 4)), .int (nI (a.1 5)), .int (nI (a.1 6)), .int (nI (a.1 7)), .ref (q 61), .ref (q 62), .ref (q 63), .int (nI (a.1 8)), .ref (q 65), .ref (q 66), .int (nI (a.1 9)), .int (nI (a.1 10)), .int (nI (a.1 11)), .int (nI (a.1 12)), .int (nI 1)])), (q 54, .inl (cI, 32, .inl rg)), (q 55, .inl (cI, 32, .inl cm)), (q 61, .inl (cZ, 300, .inl (a.2 2))), (q 62, .inl (cZ, 300, .inl (a.2 3))), (q 63, .inl (cI, 300, .inl (a.2 4))), (q 65, .inl (cI, 100, .inl (a.2 5))), (q 66, .inl (cZ, 100, .inl co))] := hD.sub [0, 1, 2, 3, 4, 5, 6, 7] (by decide) rfl
  obtain rfl : r_5 = nI 0 := hw_5
  refine k_if_ne (tgt := 15) hx hb (by decide) dX4_need_8 (by decide) (fun q => absurd q (by decide)) (fun _ => ?_)
  refine lv_iconst (v := nI 0) hx hb dX4_need_11 (by decide) ?_
  refine lv_goto (tgt := 30) hx hb dX4_need_12 (by decide) ?_
  exact k_iret (v := nI 0) hx hb hr hlk rfl () rfl hP hD hS dX4_need_30
set_option maxHeartbeats 4000000 in
set_option maxRecDepth 100000 in
theorem c_X4_isWhole_ok (l : Launch) (D : va_G) (cI cZ : ClassId) (q : Nat → Nat) (a : AS) (hd th : Nat) (rg cm co : Nat → Int32) (x : Int32) (h9 : inR x 100) : kMi l yX4_isWhole wsX4_isWhole 1 21 D (TY cI cZ) [.ref (q 50), .int x] [(q 50, .inr (4, [.int (nI (a.1 0)), .int (nI (a.1 1)), .int (nI (a.1 2)), .int (nI (a.1 3)), .ref (q 54), .ref (q 55), .int (nI hd), .int (nI (a.1 4)), .int (nI (a.1 5)), .int (nI (a.1 6)), .int (nI (a.1 7)), .ref (q 61), .ref (q 62), .ref (q 63), .int (nI (a.1 8)), .ref (q 65), .ref (q 66), .int (nI (a.1 9)), .int (nI (a.1 10)), .int (nI (a.1 11)), .int (nI (a.1 12)), .int (nI th)])), (q 54, .inl (cI, 32, .inl rg)), (q 55, .inl (cI, 32, .inl cm)), (q 61, .inl (cZ, 300, .inl (a.2 2))), (q 62, .inl (cZ, 300, .inl (a.2 3))), (q 63, .inl (cI, 300, .inl (a.2 4))), (q 65, .inl (cI, 100, .inl (a.2 5))), (q 66, .inl (cZ, 100, .inl co))] (fun (r : Int32) (_ : Unit) => r = (if whl (a.2 2) x.toNatClampNeg then nI 1 else nI 0)) (fun (_ : Unit) => MW cI cZ q a hd rg cm 0 co) := by
  intro sz
  refine k_in (Qc := fun A => va_Qi (fun (r : Int32) (_ : Unit) => r = (if whl (a.2 2) x.toNatClampNeg then nI 1 else nI 0)) (kB D A (fun (_ : Unit) => MW cI cZ q a hd rg cm 0 co)) A) (cc := cX4_isWhole) (maxL := 2) (ret := (some .boolean)) (by decide) rfl (Nat.le_of_ble_eq_true rfl) ?_
  intro p e s m below meth c A ls hfix hr hlk hN hP hK hD hA hS hl
  have hfix : CallFix p m c cX4_isWhole 2 s [.ref (q 50), .int x].toArray wsX4_isWhole RX4 := hfix
  have hl : lv_has ls 2 [(0, .ref (q 50)), (1, .int x)] := hl
  obtain ⟨hx, hb, hml, hown, hts⟩ := id hfix
  have hP : va_P D vwCl [(q 50, .inr (4, [.int (nI (a.1 0)), .int (nI (a.1 1)), .int (nI (a.1 2)), .int (nI (a.1 3)), .ref (q 54), .ref (q 55), .int (nI hd), .int (nI (a.1 4)), .int (nI (a.1 5)), .int (nI (a.1 6)), .int (nI (a.1 7)), .ref (q 61), .ref (q 62), .ref (q 63), .int (nI (a.1 8)), .ref (q 65), .ref (q 66), .int (nI (a.1 9)), .int (nI (a.1 10)), .int (nI (a.1 11)), .int (nI (a.1 12)), .int (nI th)])), (q 54, .inl (cI, 32, .inl rg)), (q 55, .inl (cI, 32, .inl cm)), (q 61, .inl (cZ, 300, .inl (a.2 2))), (q 62, .inl (cZ, 300, .inl (a.2 3))), (q 63, .inl (cI, 300, .inl (a.2 4))), (q 65, .inl (cI, 100, .inl (a.2 5))), (q 66, .inl (cZ, 100, .inl co))] s.heap := hP
  have hD : va_D A [(q 50, .inr (4, [.int (nI (a.1 0)), .int (nI (a.1 1)), .int (nI (a.1 2)), .int (nI (a.1 3)), .ref (q 54), .ref (q 55), .int (nI hd), .int (nI (a.1 4)), .int (nI (a.1 5)), .int (nI (a.1 6)), .int (nI (a.1 7)), .ref (q 61), .ref (q 62), .ref (q 63), .int (nI (a.1 8)), .ref (q 65), .ref (q 66), .int (nI (a.1 9)), .int (nI (a.1 10)), .int (nI (a.1 11)), .int (nI (a.1 12)), .int (nI th)])), (q 54, .inl (cI, 32, .inl rg)), (q 55, .inl (cI, 32, .inl cm)), (q 61, .inl (cZ, 300, .inl (a.2 2))), (q 62, .inl (cZ, 300, .inl (a.2 3))), (q 63, .inl (cI, 300, .inl (a.2 4))), (q 65, .inl (cI, 100, .inl (a.2 5))), (q 66, .inl (cZ, 100, .inl co))] := hD
  have hS : ∃ (H : Heap) (locs : List Loc), H = s.heap ∧ locs = [] ∧ va_S A s.heap H locs := ⟨_, _, rfl, rfl, hS⟩
  obtain ⟨H, locs, hH, hlocs, hS⟩ := hS
  rw [← hH] at hP
  suffices hW9 : W p l e ({ frames := 1, cells := 0, slots := 0, locals := 21 } : Room) s m [.ref (q 50), .int x].toArray below meth c H locs 0 0 (MQ below (va_Qi (fun (r : Int32) (_ : Unit) => r = (if whl (a.2 2) x.toNatClampNeg then nI 1 else nI 0)) (kB D A (fun (_ : Unit) => MW cI cZ q a hd rg cm 0 co)) A) [.ref (q 50), .int x].toArray s 0 0 A) (F0 m 0 ls []) by rw [hH, hlocs] at hW9; exact hW9
  clear hH hlocs
  refine lv_aload_n hx hb dX4_isWhole_0 rfl (lv_at hl 0 rfl) ?_
  refine lv_iload_n hx hb dX4_isWhole_1 rfl (lv_at hl 1 rfl) ?_
  refine k_callSi (n := 1) (As := [.int x]) (rest := [.ref (q 50)]) hfix hN hK hP hD hS hA hl.1 (c_X4_isFrame l D cI cZ (x)) (fun _ => rfl) gX4_isWhole_X4_isFrame rfl (by decide +kernel) rfl ⟨Nat.le_of_ble_eq_true rfl, Nat.le_of_ble_eq_true rfl⟩ [0, 1, 2, 3, 4, 5, 6, 7] rfl (by decide) rfl (Nat.le_of_ble_eq_true rfl) ⟨Nat.zero_le _, Nat.zero_le _⟩ dX4_isWhole_2 (fun r_2 u H locs hw_2 hP hD hS => ?_)
  have e_2 : (inR (x) 100) := h9
  rw [if_pos e_2] at hw_2
  obtain rfl : r_2 = nI 1 := hw_2
  refine k_callVi (n := 1) (wr := []) (As := [.int (nI 1)]) (rest := []) hfix hN hK hP hD hS hA hl.1 (c_X4_asks1 l D cI cZ q a hd th rg cm co ) gX4_isWhole_X4_asks rfl (by decide +kernel) rfl ⟨Nat.le_of_ble_eq_true rfl, Nat.le_of_ble_eq_true rfl⟩ [0, 1, 2, 3, 4, 5, 6, 7] [] rfl rfl (by decide) (by decide) (by decide) 0 rfl rfl rfl (Nat.le_of_ble_eq_true rfl) ⟨Nat.zero_le _, Nat.zero_le _⟩ dX4_isWhole_5 (fun r_5 u H locs hw_5 hP hD hS => ?_)
  have hP : va_P D vwCl [(q 50, .inr (4, [.int (nI (a.1 0)), .int (nI (a.1 1)), .int (nI (a.1 2)), .int (nI (a.1 3)), .ref (q 54), .ref (q 55), .int (nI hd), .int (nI (a.1 4)), .int (nI (a.1 5)), .int (nI (a.1 6)), .int (nI (a.1 7)), .ref (q 61), .ref (q 62), .ref (q 63), .int (nI (a.1 8)), .ref (q 65), .ref (q 66), .int (nI (a.1 9)), .int (nI (a.1 10)), .int (nI (a.1 11)), .int (nI (a.1 12)), .int (nI 0)])), (q 54, .inl (cI, 32, .inl rg)), (q 55, .inl (cI, 32, .inl cm)), (q 61, .inl (cZ, 300, .inl (a.2 2))), (q 62, .inl (cZ, 300, .inl (a.2 3))), (q 63, .inl (cI, 300, .inl (a.2 4))), (q 65, .inl (cI, 100, .inl (a.2 5))), (q 66, .inl (cZ, 100, .inl co))] H := hP.sub [0, 1, 2, 3, 4, 5, 6, 7] rfl
  have hD : va_D A [(q 50, .inr (4, [.int (nI (a.1 0)), .int (nI (a.1 1)), .int (nI (a.1 2)), .int (nI (a.1 3)), .ref (q 54), .ref (q 55), .int (nI hd), .int (nI (a.1 4)), .int (nI (a.1 5)), .int (nI (a.1 6)), .int (nI (a.1 7)), .ref (q 61), .ref (q 62), .ref (q 63), .int (nI (a.1 8)), .ref (q 65), .ref (q 66), .int (nI (a.1 9)), .int (nI (a.1 10)), .int (nI (a.1 11)), .int (nI (a.1 12)), .int (nI 0)])), (q 54, .inl (cI, 32, .inl rg)), (q 55, .inl (cI, 32, .inl cm)), (q 61, .inl (cZ, 300, .inl (a.2 2))), (q 62, .inl (cZ, 300, .inl (a.2 3))), (q 63, .inl (cI, 300, .inl (a.2 4))), (q 65, .inl (cI, 100, .inl (a.2 5))), (q 66, .inl (cZ, 100, .inl co))] := hD.sub [0, 1, 2, 3, 4, 5, 6, 7] (by decide) rfl
  obtain rfl : r_5 = nI 1 := hw_5
  refine k_if_eq (tgt := 23) hx hb (by decide) dX4_isWhole_8 (by decide) (fun q => absurd q (by decide)) (fun _ => ?_)
  have hq9 : x.toNatClampNeg < 100 := inR_lt (by decide) h9
  have hn9 : x = nI x.toNatClampNeg := inR_eq (by decide) h9
  have hl : lv_has ls 2 [(0, .ref (q 50)), (1, .int (nI x.toNatClampNeg))] := by rw [← hn9]; exact hl
  refine lv_aload_n hx hb dX4_isWhole_11 rfl (lv_at hl 0 rfl) ?_
  refine lv_iload_n hx hb dX4_isWhole_12 rfl (lv_at hl 1 rfl) ?_
  refine k_callVi (n := 1) (wr := []) (As := [.int (nI x.toNatClampNeg)]) (rest := []) hfix hN hK hP hD hS hA hl.1 (c_X4_whole l D cI cZ q a hd 0 rg cm co x.toNatClampNeg (by omega)) gX4_isWhole_X4_whole rfl (by decide +kernel) rfl ⟨Nat.le_of_ble_eq_true rfl, Nat.le_of_ble_eq_true rfl⟩ [0, 1, 2, 3, 4, 5, 6, 7] [] rfl rfl (by decide) (by decide) (by decide) 0 rfl rfl rfl (Nat.le_of_ble_eq_true rfl) ⟨Nat.zero_le _, Nat.zero_le _⟩ dX4_isWhole_13 (fun r_13 u H locs hw_13 hP hD hS => ?_)
  have hP : va_P D vwCl [(q 50, .inr (4, [.int (nI (a.1 0)), .int (nI (a.1 1)), .int (nI (a.1 2)), .int (nI (a.1 3)), .ref (q 54), .ref (q 55), .int (nI hd), .int (nI (a.1 4)), .int (nI (a.1 5)), .int (nI (a.1 6)), .int (nI (a.1 7)), .ref (q 61), .ref (q 62), .ref (q 63), .int (nI (a.1 8)), .ref (q 65), .ref (q 66), .int (nI (a.1 9)), .int (nI (a.1 10)), .int (nI (a.1 11)), .int (nI (a.1 12)), .int (nI 0)])), (q 54, .inl (cI, 32, .inl rg)), (q 55, .inl (cI, 32, .inl cm)), (q 61, .inl (cZ, 300, .inl (a.2 2))), (q 62, .inl (cZ, 300, .inl (a.2 3))), (q 63, .inl (cI, 300, .inl (a.2 4))), (q 65, .inl (cI, 100, .inl (a.2 5))), (q 66, .inl (cZ, 100, .inl co))] H := hP.sub [0, 1, 2, 3, 4, 5, 6, 7] rfl
  have hD : va_D A [(q 50, .inr (4, [.int (nI (a.1 0)), .int (nI (a.1 1)), .int (nI (a.1 2)), .int (nI (a.1 3)), .ref (q 54), .ref (q 55), .int (nI hd), .int (nI (a.1 4)), .int (nI (a.1 5)), .int (nI (a.1 6)), .int (nI (a.1 7)), .ref (q 61), .ref (q 62), .ref (q 63), .int (nI (a.1 8)), .ref (q 65), .ref (q 66), .int (nI (a.1 9)), .int (nI (a.1 10)), .int (nI (a.1 11)), .int (nI (a.1 12)), .int (nI 0)])), (q 54, .inl (cI, 32, .inl rg)), (q 55, .inl (cI, 32, .inl cm)), (q 61, .inl (cZ, 300, .inl (a.2 2))), (q 62, .inl (cZ, 300, .inl (a.2 3))), (q 63, .inl (cI, 300, .inl (a.2 4))), (q 65, .inl (cI, 100, .inl (a.2 5))), (q 66, .inl (cZ, 100, .inl co))] := hD.sub [0, 1, 2, 3, 4, 5, 6, 7] (by decide) rfl
  by_cases e_13 : whl (a.2 2) x.toNatClampNeg
  · rw [if_pos e_13] at hw_13
    obtain rfl : r_13 = nI 1 := hw_13
    refine k_if_eq (tgt := 23) hx hb (by decide) dX4_isWhole_16 (by decide) (fun q => absurd q (by decide)) (fun _ => ?_)
    refine lv_iconst (v := nI 1) hx hb dX4_isWhole_19 (by decide) ?_
    refine lv_goto (tgt := 24) hx hb dX4_isWhole_20 (by decide) ?_
    exact k_iret (v := nI 1) hx hb hr hlk (by decide) () ((if_pos e_13).symm) hP hD hS dX4_isWhole_24
  · rw [if_neg e_13] at hw_13
    obtain rfl : r_13 = nI 0 := hw_13
    refine k_if_eq (tgt := 23) hx hb (by decide) dX4_isWhole_16 (by decide) (fun _ => ?_) (fun q => absurd q (by decide))
    refine lv_iconst (v := nI 0) hx hb dX4_isWhole_23 (by decide) ?_
    exact k_iret (v := nI 0) hx hb hr hlk (by decide) () ((if_neg e_13).symm) hP hD hS dX4_isWhole_24
set_option maxHeartbeats 4000000 in
set_option maxRecDepth 100000 in
theorem c_X4_isWhole_no (l : Launch) (D : va_G) (cI cZ : ClassId) (q : Nat → Nat) (a : AS) (hd th : Nat) (rg cm co : Nat → Int32) (x : Int32) (h9 : ¬ (inR x 100)) : kMi l yX4_isWhole wsX4_isWhole 1 21 D (TY cI cZ) [.ref (q 50), .int x] [(q 50, .inr (4, [.int (nI (a.1 0)), .int (nI (a.1 1)), .int (nI (a.1 2)), .int (nI (a.1 3)), .ref (q 54), .ref (q 55), .int (nI hd), .int (nI (a.1 4)), .int (nI (a.1 5)), .int (nI (a.1 6)), .int (nI (a.1 7)), .ref (q 61), .ref (q 62), .ref (q 63), .int (nI (a.1 8)), .ref (q 65), .ref (q 66), .int (nI (a.1 9)), .int (nI (a.1 10)), .int (nI (a.1 11)), .int (nI (a.1 12)), .int (nI th)])), (q 54, .inl (cI, 32, .inl rg)), (q 55, .inl (cI, 32, .inl cm)), (q 61, .inl (cZ, 300, .inl (a.2 2))), (q 62, .inl (cZ, 300, .inl (a.2 3))), (q 63, .inl (cI, 300, .inl (a.2 4))), (q 65, .inl (cI, 100, .inl (a.2 5))), (q 66, .inl (cZ, 100, .inl co))] (fun (r : Int32) (_ : Unit) => r = nI 0) (fun (_ : Unit) => MW cI cZ q a hd rg cm 1 co) := by
  intro sz
  refine k_in (Qc := fun A => va_Qi (fun (r : Int32) (_ : Unit) => r = nI 0) (kB D A (fun (_ : Unit) => MW cI cZ q a hd rg cm 1 co)) A) (cc := cX4_isWhole) (maxL := 2) (ret := (some .boolean)) (by decide) rfl (Nat.le_of_ble_eq_true rfl) ?_
  intro p e s m below meth c A ls hfix hr hlk hN hP hK hD hA hS hl
  have hfix : CallFix p m c cX4_isWhole 2 s [.ref (q 50), .int x].toArray wsX4_isWhole RX4 := hfix
  have hl : lv_has ls 2 [(0, .ref (q 50)), (1, .int x)] := hl
  obtain ⟨hx, hb, hml, hown, hts⟩ := id hfix
  have hP : va_P D vwCl [(q 50, .inr (4, [.int (nI (a.1 0)), .int (nI (a.1 1)), .int (nI (a.1 2)), .int (nI (a.1 3)), .ref (q 54), .ref (q 55), .int (nI hd), .int (nI (a.1 4)), .int (nI (a.1 5)), .int (nI (a.1 6)), .int (nI (a.1 7)), .ref (q 61), .ref (q 62), .ref (q 63), .int (nI (a.1 8)), .ref (q 65), .ref (q 66), .int (nI (a.1 9)), .int (nI (a.1 10)), .int (nI (a.1 11)), .int (nI (a.1 12)), .int (nI th)])), (q 54, .inl (cI, 32, .inl rg)), (q 55, .inl (cI, 32, .inl cm)), (q 61, .inl (cZ, 300, .inl (a.2 2))), (q 62, .inl (cZ, 300, .inl (a.2 3))), (q 63, .inl (cI, 300, .inl (a.2 4))), (q 65, .inl (cI, 100, .inl (a.2 5))), (q 66, .inl (cZ, 100, .inl co))] s.heap := hP
  have hD : va_D A [(q 50, .inr (4, [.int (nI (a.1 0)), .int (nI (a.1 1)), .int (nI (a.1 2)), .int (nI (a.1 3)), .ref (q 54), .ref (q 55), .int (nI hd), .int (nI (a.1 4)), .int (nI (a.1 5)), .int (nI (a.1 6)), .int (nI (a.1 7)), .ref (q 61), .ref (q 62), .ref (q 63), .int (nI (a.1 8)), .ref (q 65), .ref (q 66), .int (nI (a.1 9)), .int (nI (a.1 10)), .int (nI (a.1 11)), .int (nI (a.1 12)), .int (nI th)])), (q 54, .inl (cI, 32, .inl rg)), (q 55, .inl (cI, 32, .inl cm)), (q 61, .inl (cZ, 300, .inl (a.2 2))), (q 62, .inl (cZ, 300, .inl (a.2 3))), (q 63, .inl (cI, 300, .inl (a.2 4))), (q 65, .inl (cI, 100, .inl (a.2 5))), (q 66, .inl (cZ, 100, .inl co))] := hD
  have hS : ∃ (H : Heap) (locs : List Loc), H = s.heap ∧ locs = [] ∧ va_S A s.heap H locs := ⟨_, _, rfl, rfl, hS⟩
  obtain ⟨H, locs, hH, hlocs, hS⟩ := hS
  rw [← hH] at hP
  suffices hW9 : W p l e ({ frames := 1, cells := 0, slots := 0, locals := 21 } : Room) s m [.ref (q 50), .int x].toArray below meth c H locs 0 0 (MQ below (va_Qi (fun (r : Int32) (_ : Unit) => r = nI 0) (kB D A (fun (_ : Unit) => MW cI cZ q a hd rg cm 1 co)) A) [.ref (q 50), .int x].toArray s 0 0 A) (F0 m 0 ls []) by rw [hH, hlocs] at hW9; exact hW9
  clear hH hlocs
  refine lv_aload_n hx hb dX4_isWhole_0 rfl (lv_at hl 0 rfl) ?_
  refine lv_iload_n hx hb dX4_isWhole_1 rfl (lv_at hl 1 rfl) ?_
  refine k_callSi (n := 1) (As := [.int x]) (rest := [.ref (q 50)]) hfix hN hK hP hD hS hA hl.1 (c_X4_isFrame l D cI cZ (x)) (fun _ => rfl) gX4_isWhole_X4_isFrame rfl (by decide +kernel) rfl ⟨Nat.le_of_ble_eq_true rfl, Nat.le_of_ble_eq_true rfl⟩ [0, 1, 2, 3, 4, 5, 6, 7] rfl (by decide) rfl (Nat.le_of_ble_eq_true rfl) ⟨Nat.zero_le _, Nat.zero_le _⟩ dX4_isWhole_2 (fun r_2 u H locs hw_2 hP hD hS => ?_)
  have e_2 : ¬ (inR (x) 100) := h9
  rw [if_neg e_2] at hw_2
  obtain rfl : r_2 = nI 0 := hw_2
  refine k_callVi (n := 1) (wr := []) (As := [.int (nI 0)]) (rest := []) hfix hN hK hP hD hS hA hl.1 (c_X4_asks0 l D cI cZ q a hd th rg cm co ) gX4_isWhole_X4_asks rfl (by decide +kernel) rfl ⟨Nat.le_of_ble_eq_true rfl, Nat.le_of_ble_eq_true rfl⟩ [0, 1, 2, 3, 4, 5, 6, 7] [] rfl rfl (by decide) (by decide) (by decide) 0 rfl rfl rfl (Nat.le_of_ble_eq_true rfl) ⟨Nat.zero_le _, Nat.zero_le _⟩ dX4_isWhole_5 (fun r_5 u H locs hw_5 hP hD hS => ?_)
  have hP : va_P D vwCl [(q 50, .inr (4, [.int (nI (a.1 0)), .int (nI (a.1 1)), .int (nI (a.1 2)), .int (nI (a.1 3)), .ref (q 54), .ref (q 55), .int (nI hd), .int (nI (a.1 4)), .int (nI (a.1 5)), .int (nI (a.1 6)), .int (nI (a.1 7)), .ref (q 61), .ref (q 62), .ref (q 63), .int (nI (a.1 8)), .ref (q 65), .ref (q 66), .int (nI (a.1 9)), .int (nI (a.1 10)), .int (nI (a.1 11)), .int (nI (a.1 12)), .int (nI 1)])), (q 54, .inl (cI, 32, .inl rg)), (q 55, .inl (cI, 32, .inl cm)), (q 61, .inl (cZ, 300, .inl (a.2 2))), (q 62, .inl (cZ, 300, .inl (a.2 3))), (q 63, .inl (cI, 300, .inl (a.2 4))), (q 65, .inl (cI, 100, .inl (a.2 5))), (q 66, .inl (cZ, 100, .inl co))] H := hP.sub [0, 1, 2, 3, 4, 5, 6, 7] rfl
  have hD : va_D A [(q 50, .inr (4, [.int (nI (a.1 0)), .int (nI (a.1 1)), .int (nI (a.1 2)), .int (nI (a.1 3)), .ref (q 54), .ref (q 55), .int (nI hd), .int (nI (a.1 4)), .int (nI (a.1 5)), .int (nI (a.1 6)), .int (nI (a.1 7)), .ref (q 61), .ref (q 62), .ref (q 63), .int (nI (a.1 8)), .ref (q 65), .ref (q 66), .int (nI (a.1 9)), .int (nI (a.1 10)), .int (nI (a.1 11)), .int (nI (a.1 12)), .int (nI 1)])), (q 54, .inl (cI, 32, .inl rg)), (q 55, .inl (cI, 32, .inl cm)), (q 61, .inl (cZ, 300, .inl (a.2 2))), (q 62, .inl (cZ, 300, .inl (a.2 3))), (q 63, .inl (cI, 300, .inl (a.2 4))), (q 65, .inl (cI, 100, .inl (a.2 5))), (q 66, .inl (cZ, 100, .inl co))] := hD.sub [0, 1, 2, 3, 4, 5, 6, 7] (by decide) rfl
  obtain rfl : r_5 = nI 0 := hw_5
  refine k_if_eq (tgt := 23) hx hb (by decide) dX4_isWhole_8 (by decide) (fun _ => ?_) (fun q => absurd q (by decide))
  refine lv_iconst (v := nI 0) hx hb dX4_isWhole_23 (by decide) ?_
  exact k_iret (v := nI 0) hx hb hr hlk (by decide) () rfl hP hD hS dX4_isWhole_24
set_option maxHeartbeats 4000000 in
set_option maxRecDepth 100000 in
theorem c_X4_fate_ok (l : Launch) (D : va_G) (cI cZ : ClassId) (q : Nat → Nat) (a : AS) (hd th : Nat) (rg cm co : Nat → Int32) (x : Int32) (h9 : inR x 100) : kMi l yX4_fate wsX4_fate 1 21 D (TY cI cZ) [.ref (q 50), .int x] [(q 50, .inr (4, [.int (nI (a.1 0)), .int (nI (a.1 1)), .int (nI (a.1 2)), .int (nI (a.1 3)), .ref (q 54), .ref (q 55), .int (nI hd), .int (nI (a.1 4)), .int (nI (a.1 5)), .int (nI (a.1 6)), .int (nI (a.1 7)), .ref (q 61), .ref (q 62), .ref (q 63), .int (nI (a.1 8)), .ref (q 65), .ref (q 66), .int (nI (a.1 9)), .int (nI (a.1 10)), .int (nI (a.1 11)), .int (nI (a.1 12)), .int (nI th)])), (q 54, .inl (cI, 32, .inl rg)), (q 55, .inl (cI, 32, .inl cm)), (q 61, .inl (cZ, 300, .inl (a.2 2))), (q 62, .inl (cZ, 300, .inl (a.2 3))), (q 63, .inl (cI, 300, .inl (a.2 4))), (q 65, .inl (cI, 100, .inl (a.2 5))), (q 66, .inl (cZ, 100, .inl co))] (fun (r : Int32) (_ : Unit) => r = a.2 5 x.toNatClampNeg) (fun (_ : Unit) => MW cI cZ q a hd rg cm 0 co) := by
  intro sz
  refine k_in (Qc := fun A => va_Qi (fun (r : Int32) (_ : Unit) => r = a.2 5 x.toNatClampNeg) (kB D A (fun (_ : Unit) => MW cI cZ q a hd rg cm 0 co)) A) (cc := cX4_fate) (maxL := 2) (ret := (some .int)) (by decide) rfl (Nat.le_of_ble_eq_true rfl) ?_
  intro p e s m below meth c A ls hfix hr hlk hN hP hK hD hA hS hl
  have hfix : CallFix p m c cX4_fate 2 s [.ref (q 50), .int x].toArray wsX4_fate RX4 := hfix
  have hl : lv_has ls 2 [(0, .ref (q 50)), (1, .int x)] := hl
  obtain ⟨hx, hb, hml, hown, hts⟩ := id hfix
  have hinX4 : ∀ w ∈ wsX40, w ∈ wsX4_fate := fun _ h => List.mem_cons_of_mem _ (List.mem_append_right _ h)
  have hP : va_P D vwCl [(q 50, .inr (4, [.int (nI (a.1 0)), .int (nI (a.1 1)), .int (nI (a.1 2)), .int (nI (a.1 3)), .ref (q 54), .ref (q 55), .int (nI hd), .int (nI (a.1 4)), .int (nI (a.1 5)), .int (nI (a.1 6)), .int (nI (a.1 7)), .ref (q 61), .ref (q 62), .ref (q 63), .int (nI (a.1 8)), .ref (q 65), .ref (q 66), .int (nI (a.1 9)), .int (nI (a.1 10)), .int (nI (a.1 11)), .int (nI (a.1 12)), .int (nI th)])), (q 54, .inl (cI, 32, .inl rg)), (q 55, .inl (cI, 32, .inl cm)), (q 61, .inl (cZ, 300, .inl (a.2 2))), (q 62, .inl (cZ, 300, .inl (a.2 3))), (q 63, .inl (cI, 300, .inl (a.2 4))), (q 65, .inl (cI, 100, .inl (a.2 5))), (q 66, .inl (cZ, 100, .inl co))] s.heap := hP
  have hD : va_D A [(q 50, .inr (4, [.int (nI (a.1 0)), .int (nI (a.1 1)), .int (nI (a.1 2)), .int (nI (a.1 3)), .ref (q 54), .ref (q 55), .int (nI hd), .int (nI (a.1 4)), .int (nI (a.1 5)), .int (nI (a.1 6)), .int (nI (a.1 7)), .ref (q 61), .ref (q 62), .ref (q 63), .int (nI (a.1 8)), .ref (q 65), .ref (q 66), .int (nI (a.1 9)), .int (nI (a.1 10)), .int (nI (a.1 11)), .int (nI (a.1 12)), .int (nI th)])), (q 54, .inl (cI, 32, .inl rg)), (q 55, .inl (cI, 32, .inl cm)), (q 61, .inl (cZ, 300, .inl (a.2 2))), (q 62, .inl (cZ, 300, .inl (a.2 3))), (q 63, .inl (cI, 300, .inl (a.2 4))), (q 65, .inl (cI, 100, .inl (a.2 5))), (q 66, .inl (cZ, 100, .inl co))] := hD
  have hS : ∃ (H : Heap) (locs : List Loc), H = s.heap ∧ locs = [] ∧ va_S A s.heap H locs := ⟨_, _, rfl, rfl, hS⟩
  obtain ⟨H, locs, hH, hlocs, hS⟩ := hS
  rw [← hH] at hP
  suffices hW9 : W p l e ({ frames := 1, cells := 0, slots := 0, locals := 21 } : Room) s m [.ref (q 50), .int x].toArray below meth c H locs 0 0 (MQ below (va_Qi (fun (r : Int32) (_ : Unit) => r = a.2 5 x.toNatClampNeg) (kB D A (fun (_ : Unit) => MW cI cZ q a hd rg cm 0 co)) A) [.ref (q 50), .int x].toArray s 0 0 A) (F0 m 0 ls []) by rw [hH, hlocs] at hW9; exact hW9
  clear hH hlocs
  refine lv_aload_n hx hb dX4_fate_0 rfl (lv_at hl 0 rfl) ?_
  refine lv_iload_n hx hb dX4_fate_1 rfl (lv_at hl 1 rfl) ?_
  refine k_callSi (n := 1) (As := [.int x]) (rest := [.ref (q 50)]) hfix hN hK hP hD hS hA hl.1 (c_X4_isFrame l D cI cZ (x)) (fun _ => rfl) gX4_fate_X4_isFrame rfl (by decide +kernel) rfl ⟨Nat.le_of_ble_eq_true rfl, Nat.le_of_ble_eq_true rfl⟩ [0, 1, 2, 3, 4, 5, 6, 7] rfl (by decide) rfl (Nat.le_of_ble_eq_true rfl) ⟨Nat.zero_le _, Nat.zero_le _⟩ dX4_fate_2 (fun r_2 u H locs hw_2 hP hD hS => ?_)
  have e_2 : (inR (x) 100) := h9
  rw [if_pos e_2] at hw_2
  obtain rfl : r_2 = nI 1 := hw_2
  refine k_callVi (n := 1) (wr := []) (As := [.int (nI 1)]) (rest := []) hfix hN hK hP hD hS hA hl.1 (c_X4_asks1 l D cI cZ q a hd th rg cm co ) gX4_fate_X4_asks rfl (by decide +kernel) rfl ⟨Nat.le_of_ble_eq_true rfl, Nat.le_of_ble_eq_true rfl⟩ [0, 1, 2, 3, 4, 5, 6, 7] [] rfl rfl (by decide) (by decide) (by decide) 0 rfl rfl rfl (Nat.le_of_ble_eq_true rfl) ⟨Nat.zero_le _, Nat.zero_le _⟩ dX4_fate_5 (fun r_5 u H locs hw_5 hP hD hS => ?_)
  have hP : va_P D vwCl [(q 50, .inr (4, [.int (nI (a.1 0)), .int (nI (a.1 1)), .int (nI (a.1 2)), .int (nI (a.1 3)), .ref (q 54), .ref (q 55), .int (nI hd), .int (nI (a.1 4)), .int (nI (a.1 5)), .int (nI (a.1 6)), .int (nI (a.1 7)), .ref (q 61), .ref (q 62), .ref (q 63), .int (nI (a.1 8)), .ref (q 65), .ref (q 66), .int (nI (a.1 9)), .int (nI (a.1 10)), .int (nI (a.1 11)), .int (nI (a.1 12)), .int (nI 0)])), (q 54, .inl (cI, 32, .inl rg)), (q 55, .inl (cI, 32, .inl cm)), (q 61, .inl (cZ, 300, .inl (a.2 2))), (q 62, .inl (cZ, 300, .inl (a.2 3))), (q 63, .inl (cI, 300, .inl (a.2 4))), (q 65, .inl (cI, 100, .inl (a.2 5))), (q 66, .inl (cZ, 100, .inl co))] H := hP.sub [0, 1, 2, 3, 4, 5, 6, 7] rfl
  have hD : va_D A [(q 50, .inr (4, [.int (nI (a.1 0)), .int (nI (a.1 1)), .int (nI (a.1 2)), .int (nI (a.1 3)), .ref (q 54), .ref (q 55), .int (nI hd), .int (nI (a.1 4)), .int (nI (a.1 5)), .int (nI (a.1 6)), .int (nI (a.1 7)), .ref (q 61), .ref (q 62), .ref (q 63), .int (nI (a.1 8)), .ref (q 65), .ref (q 66), .int (nI (a.1 9)), .int (nI (a.1 10)), .int (nI (a.1 11)), .int (nI (a.1 12)), .int (nI 0)])), (q 54, .inl (cI, 32, .inl rg)), (q 55, .inl (cI, 32, .inl cm)), (q 61, .inl (cZ, 300, .inl (a.2 2))), (q 62, .inl (cZ, 300, .inl (a.2 3))), (q 63, .inl (cI, 300, .inl (a.2 4))), (q 65, .inl (cI, 100, .inl (a.2 5))), (q 66, .inl (cZ, 100, .inl co))] := hD.sub [0, 1, 2, 3, 4, 5, 6, 7] (by decide) rfl
  obtain rfl : r_5 = nI 1 := hw_5
  refine k_if_eq (tgt := 20) hx hb (by decide) dX4_fate_8 (by decide) (fun q => absurd q (by decide)) (fun _ => ?_)
  have hq9 : x.toNatClampNeg < 100 := inR_lt (by decide) h9
  have hn9 : x = nI x.toNatClampNeg := inR_eq (by decide) h9
  have hl : lv_has ls 2 [(0, .ref (q 50)), (1, .int (nI x.toNatClampNeg))] := by rw [← hn9]; exact hl
  refine lv_aload_n hx hb dX4_fate_11 rfl (lv_at hl 0 rfl) ?_
  refine va_get (D := D) (ci := 4) (v := .ref (q 65)) (C := RX4) (T := TX4) (N := 22) hx hb hts hinX4 hown hK hP 0 rfl rfl 15 (by decide) (hts _ (List.mem_of_getElem? (i := 1) rfl)) (fun _ h9 => h9) rfl dX4_fate_12 ?_
  refine lv_iload_n hx hb dX4_fate_15 rfl (lv_at hl 1 rfl) ?_
  refine k_iald hx hb hK hP 6 0 rfl rfl (by omega) (Nat.le_of_ble_eq_true rfl) dX4_fate_16 ?_
  refine lv_goto (tgt := 21) hx hb dX4_fate_17 (by decide) ?_
  exact k_iret (v := ((a.2 5) x.toNatClampNeg)) hx hb hr hlk rfl () rfl hP hD hS dX4_fate_21
set_option maxHeartbeats 4000000 in
set_option maxRecDepth 100000 in
theorem c_X4_fate_no (l : Launch) (D : va_G) (cI cZ : ClassId) (q : Nat → Nat) (a : AS) (hd th : Nat) (rg cm co : Nat → Int32) (x : Int32) (h9 : ¬ (inR x 100)) : kMi l yX4_fate wsX4_fate 1 21 D (TY cI cZ) [.ref (q 50), .int x] [(q 50, .inr (4, [.int (nI (a.1 0)), .int (nI (a.1 1)), .int (nI (a.1 2)), .int (nI (a.1 3)), .ref (q 54), .ref (q 55), .int (nI hd), .int (nI (a.1 4)), .int (nI (a.1 5)), .int (nI (a.1 6)), .int (nI (a.1 7)), .ref (q 61), .ref (q 62), .ref (q 63), .int (nI (a.1 8)), .ref (q 65), .ref (q 66), .int (nI (a.1 9)), .int (nI (a.1 10)), .int (nI (a.1 11)), .int (nI (a.1 12)), .int (nI th)])), (q 54, .inl (cI, 32, .inl rg)), (q 55, .inl (cI, 32, .inl cm)), (q 61, .inl (cZ, 300, .inl (a.2 2))), (q 62, .inl (cZ, 300, .inl (a.2 3))), (q 63, .inl (cI, 300, .inl (a.2 4))), (q 65, .inl (cI, 100, .inl (a.2 5))), (q 66, .inl (cZ, 100, .inl co))] (fun (r : Int32) (_ : Unit) => r = nI 0) (fun (_ : Unit) => MW cI cZ q a hd rg cm 1 co) := by
  intro sz
  refine k_in (Qc := fun A => va_Qi (fun (r : Int32) (_ : Unit) => r = nI 0) (kB D A (fun (_ : Unit) => MW cI cZ q a hd rg cm 1 co)) A) (cc := cX4_fate) (maxL := 2) (ret := (some .int)) (by decide) rfl (Nat.le_of_ble_eq_true rfl) ?_
  intro p e s m below meth c A ls hfix hr hlk hN hP hK hD hA hS hl
  have hfix : CallFix p m c cX4_fate 2 s [.ref (q 50), .int x].toArray wsX4_fate RX4 := hfix
  have hl : lv_has ls 2 [(0, .ref (q 50)), (1, .int x)] := hl
  obtain ⟨hx, hb, hml, hown, hts⟩ := id hfix
  have hP : va_P D vwCl [(q 50, .inr (4, [.int (nI (a.1 0)), .int (nI (a.1 1)), .int (nI (a.1 2)), .int (nI (a.1 3)), .ref (q 54), .ref (q 55), .int (nI hd), .int (nI (a.1 4)), .int (nI (a.1 5)), .int (nI (a.1 6)), .int (nI (a.1 7)), .ref (q 61), .ref (q 62), .ref (q 63), .int (nI (a.1 8)), .ref (q 65), .ref (q 66), .int (nI (a.1 9)), .int (nI (a.1 10)), .int (nI (a.1 11)), .int (nI (a.1 12)), .int (nI th)])), (q 54, .inl (cI, 32, .inl rg)), (q 55, .inl (cI, 32, .inl cm)), (q 61, .inl (cZ, 300, .inl (a.2 2))), (q 62, .inl (cZ, 300, .inl (a.2 3))), (q 63, .inl (cI, 300, .inl (a.2 4))), (q 65, .inl (cI, 100, .inl (a.2 5))), (q 66, .inl (cZ, 100, .inl co))] s.heap := hP
  have hD : va_D A [(q 50, .inr (4, [.int (nI (a.1 0)), .int (nI (a.1 1)), .int (nI (a.1 2)), .int (nI (a.1 3)), .ref (q 54), .ref (q 55), .int (nI hd), .int (nI (a.1 4)), .int (nI (a.1 5)), .int (nI (a.1 6)), .int (nI (a.1 7)), .ref (q 61), .ref (q 62), .ref (q 63), .int (nI (a.1 8)), .ref (q 65), .ref (q 66), .int (nI (a.1 9)), .int (nI (a.1 10)), .int (nI (a.1 11)), .int (nI (a.1 12)), .int (nI th)])), (q 54, .inl (cI, 32, .inl rg)), (q 55, .inl (cI, 32, .inl cm)), (q 61, .inl (cZ, 300, .inl (a.2 2))), (q 62, .inl (cZ, 300, .inl (a.2 3))), (q 63, .inl (cI, 300, .inl (a.2 4))), (q 65, .inl (cI, 100, .inl (a.2 5))), (q 66, .inl (cZ, 100, .inl co))] := hD
  have hS : ∃ (H : Heap) (locs : List Loc), H = s.heap ∧ locs = [] ∧ va_S A s.heap H locs := ⟨_, _, rfl, rfl, hS⟩
  obtain ⟨H, locs, hH, hlocs, hS⟩ := hS
  rw [← hH] at hP
  suffices hW9 : W p l e ({ frames := 1, cells := 0, slots := 0, locals := 21 } : Room) s m [.ref (q 50), .int x].toArray below meth c H locs 0 0 (MQ below (va_Qi (fun (r : Int32) (_ : Unit) => r = nI 0) (kB D A (fun (_ : Unit) => MW cI cZ q a hd rg cm 1 co)) A) [.ref (q 50), .int x].toArray s 0 0 A) (F0 m 0 ls []) by rw [hH, hlocs] at hW9; exact hW9
  clear hH hlocs
  refine lv_aload_n hx hb dX4_fate_0 rfl (lv_at hl 0 rfl) ?_
  refine lv_iload_n hx hb dX4_fate_1 rfl (lv_at hl 1 rfl) ?_
  refine k_callSi (n := 1) (As := [.int x]) (rest := [.ref (q 50)]) hfix hN hK hP hD hS hA hl.1 (c_X4_isFrame l D cI cZ (x)) (fun _ => rfl) gX4_fate_X4_isFrame rfl (by decide +kernel) rfl ⟨Nat.le_of_ble_eq_true rfl, Nat.le_of_ble_eq_true rfl⟩ [0, 1, 2, 3, 4, 5, 6, 7] rfl (by decide) rfl (Nat.le_of_ble_eq_true rfl) ⟨Nat.zero_le _, Nat.zero_le _⟩ dX4_fate_2 (fun r_2 u H locs hw_2 hP hD hS => ?_)
  have e_2 : ¬ (inR (x) 100) := h9
  rw [if_neg e_2] at hw_2
  obtain rfl : r_2 = nI 0 := hw_2
  refine k_callVi (n := 1) (wr := []) (As := [.int (nI 0)]) (rest := []) hfix hN hK hP hD hS hA hl.1 (c_X4_asks0 l D cI cZ q a hd th rg cm co ) gX4_fate_X4_asks rfl (by decide +kernel) rfl ⟨Nat.le_of_ble_eq_true rfl, Nat.le_of_ble_eq_true rfl⟩ [0, 1, 2, 3, 4, 5, 6, 7] [] rfl rfl (by decide) (by decide) (by decide) 0 rfl rfl rfl (Nat.le_of_ble_eq_true rfl) ⟨Nat.zero_le _, Nat.zero_le _⟩ dX4_fate_5 (fun r_5 u H locs hw_5 hP hD hS => ?_)
  have hP : va_P D vwCl [(q 50, .inr (4, [.int (nI (a.1 0)), .int (nI (a.1 1)), .int (nI (a.1 2)), .int (nI (a.1 3)), .ref (q 54), .ref (q 55), .int (nI hd), .int (nI (a.1 4)), .int (nI (a.1 5)), .int (nI (a.1 6)), .int (nI (a.1 7)), .ref (q 61), .ref (q 62), .ref (q 63), .int (nI (a.1 8)), .ref (q 65), .ref (q 66), .int (nI (a.1 9)), .int (nI (a.1 10)), .int (nI (a.1 11)), .int (nI (a.1 12)), .int (nI 1)])), (q 54, .inl (cI, 32, .inl rg)), (q 55, .inl (cI, 32, .inl cm)), (q 61, .inl (cZ, 300, .inl (a.2 2))), (q 62, .inl (cZ, 300, .inl (a.2 3))), (q 63, .inl (cI, 300, .inl (a.2 4))), (q 65, .inl (cI, 100, .inl (a.2 5))), (q 66, .inl (cZ, 100, .inl co))] H := hP.sub [0, 1, 2, 3, 4, 5, 6, 7] rfl
  have hD : va_D A [(q 50, .inr (4, [.int (nI (a.1 0)), .int (nI (a.1 1)), .int (nI (a.1 2)), .int (nI (a.1 3)), .ref (q 54), .ref (q 55), .int (nI hd), .int (nI (a.1 4)), .int (nI (a.1 5)), .int (nI (a.1 6)), .int (nI (a.1 7)), .ref (q 61), .ref (q 62), .ref (q 63), .int (nI (a.1 8)), .ref (q 65), .ref (q 66), .int (nI (a.1 9)), .int (nI (a.1 10)), .int (nI (a.1 11)), .int (nI (a.1 12)), .int (nI 1)])), (q 54, .inl (cI, 32, .inl rg)), (q 55, .inl (cI, 32, .inl cm)), (q 61, .inl (cZ, 300, .inl (a.2 2))), (q 62, .inl (cZ, 300, .inl (a.2 3))), (q 63, .inl (cI, 300, .inl (a.2 4))), (q 65, .inl (cI, 100, .inl (a.2 5))), (q 66, .inl (cZ, 100, .inl co))] := hD.sub [0, 1, 2, 3, 4, 5, 6, 7] (by decide) rfl
  obtain rfl : r_5 = nI 0 := hw_5
  refine k_if_eq (tgt := 20) hx hb (by decide) dX4_fate_8 (by decide) (fun _ => ?_) (fun q => absurd q (by decide))
  refine lv_iconst (v := nI 0) hx hb dX4_fate_20 (by decide) ?_
  exact k_iret (v := nI 0) hx hb hr hlk rfl () rfl hP hD hS dX4_fate_21
