/-! the ring -/
set_option maxHeartbeats 4000000 in
set_option maxRecDepth 100000 in
theorem c_X1_put (l : Launch) (D : va_G) (cI cZ : ClassId) (q : Nat → Nat) (a : AS) (hI : AI a) (x : Int32) : kMi l yX1_put wsX1_put 0 0 D (TY cI cZ) [.ref (q 1), .int x, .int (nI (a.1 7))] [(q 1, .inr (1, [.ref (q 10), .ref (q 11), .int (nI (a.1 4)), .int (nI (a.1 0)), .int (nI (a.1 1)), .int (nI (a.1 2)), .int (nI (a.1 3)), .int (nI (a.1 5)), .int (nI (a.1 6))])), (q 10, .inl (cI, 32, .inl (a.2 0))), (q 11, .inl (cI, 32, .inl (a.2 1)))] (fun (r : Int32) (_ : Unit) => r = (if a.1 4 < a.1 0 then nI 1 else nI 0)) (fun (_ : Unit) => RWa cI q (a_come x a)) := by
  obtain ⟨⟨i0, i4, i5, i7, i9, i10, i11, i12⟩, ⟨i1, i2, i3⟩, ⟨i8, i13, i14⟩, iQ, iH0, iH1, iW0, iW1, iN⟩ := id hI
  intro sz
  refine k_in (Qc := fun A => va_Qi (fun (r : Int32) (_ : Unit) => r = (if a.1 4 < a.1 0 then nI 1 else nI 0)) (kB D A (fun (_ : Unit) => RWa cI q (a_come x a))) A) (cc := cX1_put) (maxL := 3) (ret := (some .boolean)) (by decide) rfl (Nat.le_of_ble_eq_true rfl) ?_
  intro p e s m below meth c A ls hfix hr hlk hN hP hK hD hA hS hl
  have hfix : CallFix p m c cX1_put 3 s [.ref (q 1), .int x, .int (nI (a.1 7))].toArray wsX1_put RX1 := hfix
  have hl : lv_has ls 3 [(0, .ref (q 1)), (1, .int x), (2, .int (nI (a.1 7)))] := hl
  obtain ⟨hx, hb, hml, hown, hts⟩ := id hfix
  have hinX1 : ∀ w ∈ wsX10, w ∈ wsX1_put := fun _ h => List.mem_cons_of_mem _ (List.mem_append_right _ h)
  have hP : va_P D vwCl [(q 1, .inr (1, [.ref (q 10), .ref (q 11), .int (nI (a.1 4)), .int (nI (a.1 0)), .int (nI (a.1 1)), .int (nI (a.1 2)), .int (nI (a.1 3)), .int (nI (a.1 5)), .int (nI (a.1 6))])), (q 10, .inl (cI, 32, .inl (a.2 0))), (q 11, .inl (cI, 32, .inl (a.2 1)))] s.heap := hP
  have hD : va_D A [(q 1, .inr (1, [.ref (q 10), .ref (q 11), .int (nI (a.1 4)), .int (nI (a.1 0)), .int (nI (a.1 1)), .int (nI (a.1 2)), .int (nI (a.1 3)), .int (nI (a.1 5)), .int (nI (a.1 6))])), (q 10, .inl (cI, 32, .inl (a.2 0))), (q 11, .inl (cI, 32, .inl (a.2 1)))] := hD
  have hS : ∃ (H : Heap) (locs : List Loc), H = s.heap ∧ locs = [] ∧ va_S A s.heap H locs := ⟨_, _, rfl, rfl, hS⟩
  obtain ⟨H, locs, hH, hlocs, hS⟩ := hS
  rw [← hH] at hP
  suffices hW9 : W p l e ({ frames := 0, cells := 0, slots := 0, locals := 0 } : Room) s m [.ref (q 1), .int x, .int (nI (a.1 7))].toArray below meth c H locs 0 0 (MQ below (va_Qi (fun (r : Int32) (_ : Unit) => r = (if a.1 4 < a.1 0 then nI 1 else nI 0)) (kB D A (fun (_ : Unit) => RWa cI q (a_come x a))) A) [.ref (q 1), .int x, .int (nI (a.1 7))].toArray s 0 0 A) (F0 m 0 ls []) by rw [hH, hlocs] at hW9; exact hW9
  clear hH hlocs
  refine lv_aload_n hx hb dX1_put_0 rfl (lv_at hl 0 rfl) ?_
  refine va_get (D := D) (ci := 1) (v := .int (nI (a.1 4))) (C := RX1) (T := TX1) (N := 9) hx hb hts hinX1 hown hK hP 0 rfl rfl 2 (by decide) (hts _ (List.mem_of_getElem? (i := 1) rfl)) (fun _ h9 => h9) rfl dX1_put_1 ?_
  refine lv_aload_n hx hb dX1_put_4 rfl (lv_at hl 0 rfl) ?_
  refine va_get (D := D) (ci := 1) (v := .int (nI (a.1 0))) (C := RX1) (T := TX1) (N := 9) hx hb hts hinX1 hown hK hP 0 rfl rfl 3 (by decide) (hts _ (List.mem_of_getElem? (i := 2) rfl)) (fun _ h9 => h9) rfl dX1_put_5 ?_
  refine k_icmp_ge (tgt := 20) hx hb (by omega) (by omega) dX1_put_8 (by decide) (fun c_8 => ?_) (fun c_8 => ?_)
  · -- c_8 taken
    refine lv_aload_n hx hb dX1_put_20 rfl (lv_at hl 0 rfl) ?_
    refine lv_dup hx hb dX1_put_21 rfl ?_
    refine va_get (D := D) (ci := 1) (v := .int (nI (a.1 6))) (C := RX1) (T := TX1) (N := 9) hx hb hts hinX1 hown hK hP 0 rfl rfl 8 (by decide) (hts _ (List.mem_of_getElem? (i := 3) rfl)) (fun _ h9 => h9) rfl dX1_put_22 ?_
    refine lv_iconst (v := nI 1) hx hb dX1_put_25 (by decide) ?_
    refine k_iadd hx hb dX1_put_26 ?_
    refine va_put (D := D) (ci := 1) (v := .int (nI ((a.1 6) + 1))) (ty := .int) (C := RX1) (T := TX1) (N := 9) hx hb hts hinX1 tyX1 tyX1_ok nmX1 hown hK hP hD hS 0 rfl rfl 8 (by decide) (hts _ (List.mem_of_getElem? (i := 3) rfl)) (fun _ h9 => h9) rfl (by decide +kernel) rfl rfl (Nat.le_of_ble_eq_true rfl) dX1_put_27 (fun H locs hP hD hS => ?_)
    have hP : va_P D vwCl [(q 1, .inr (1, [.ref (q 10), .ref (q 11), .int (nI (a.1 4)), .int (nI (a.1 0)), .int (nI (a.1 1)), .int (nI (a.1 2)), .int (nI (a.1 3)), .int (nI (a.1 5)), .int (nI ((a.1 6) + 1))])), (q 10, .inl (cI, 32, .inl (a.2 0))), (q 11, .inl (cI, 32, .inl (a.2 1)))] H := hP
    have hD : va_D A [(q 1, .inr (1, [.ref (q 10), .ref (q 11), .int (nI (a.1 4)), .int (nI (a.1 0)), .int (nI (a.1 1)), .int (nI (a.1 2)), .int (nI (a.1 3)), .int (nI (a.1 5)), .int (nI ((a.1 6) + 1))])), (q 10, .inl (cI, 32, .inl (a.2 0))), (q 11, .inl (cI, 32, .inl (a.2 1)))] := hD
    refine lv_iconst (v := nI 0) hx hb dX1_put_30 (by decide) ?_
    exact k_iret (v := nI 0) hx hb hr hlk (by decide) () ((if_neg (Nat.not_lt.mpr c_8)).symm) (by rw [a_come_f (Nat.not_lt.mpr c_8)]; exact hP) (by rw [a_come_f (Nat.not_lt.mpr c_8)]; exact hD) hS dX1_put_31
  · -- c_8 not taken
    refine lv_aload_n hx hb dX1_put_11 rfl (lv_at hl 0 rfl) ?_
    refine va_get (D := D) (ci := 1) (v := .int (nI (a.1 4))) (C := RX1) (T := TX1) (N := 9) hx hb hts hinX1 hown hK hP 0 rfl rfl 2 (by decide) (hts _ (List.mem_of_getElem? (i := 1) rfl)) (fun _ h9 => h9) rfl dX1_put_12 ?_
    refine lv_bipush (v := nI 32) hx hb dX1_put_15 (by decide) ?_
    refine k_icmp_lt (tgt := 32) hx hb (by omega) (by omega) dX1_put_17 (by decide) (fun c_17 => ?_) (fun c_17 => absurd c_17 (by omega))
    refine lv_aload_n hx hb dX1_put_32 rfl (lv_at hl 0 rfl) ?_
    refine va_get (D := D) (ci := 1) (v := .ref (q 10)) (C := RX1) (T := TX1) (N := 9) hx hb hts hinX1 hown hK hP 0 rfl rfl 0 (by decide) (hts _ (List.mem_of_getElem? (i := 4) rfl)) (fun _ h9 => h9) rfl dX1_put_33 ?_
    refine lv_aload_n hx hb dX1_put_36 rfl (lv_at hl 0 rfl) ?_
    refine va_get (D := D) (ci := 1) (v := .int (nI (a.1 4))) (C := RX1) (T := TX1) (N := 9) hx hb hts hinX1 hown hK hP 0 rfl rfl 2 (by decide) (hts _ (List.mem_of_getElem? (i := 1) rfl)) (fun _ h9 => h9) rfl dX1_put_37 ?_
    refine lv_iload_n hx hb dX1_put_40 rfl (lv_at hl 1 rfl) ?_
    refine k_iast hx hb hK hP hD hS 1 0 rfl rfl (by omega) (Nat.le_of_ble_eq_true rfl) dX1_put_41 (fun H locs hP hD hS => ?_)
    have hP : va_P D vwCl [(q 1, .inr (1, [.ref (q 10), .ref (q 11), .int (nI (a.1 4)), .int (nI (a.1 0)), .int (nI (a.1 1)), .int (nI (a.1 2)), .int (nI (a.1 3)), .int (nI (a.1 5)), .int (nI (a.1 6))])), (q 10, .inl (cI, 32, .inl (upd (a.2 0) (a.1 4) (x)))), (q 11, .inl (cI, 32, .inl (a.2 1)))] H := hP
    have hD : va_D A [(q 1, .inr (1, [.ref (q 10), .ref (q 11), .int (nI (a.1 4)), .int (nI (a.1 0)), .int (nI (a.1 1)), .int (nI (a.1 2)), .int (nI (a.1 3)), .int (nI (a.1 5)), .int (nI (a.1 6))])), (q 10, .inl (cI, 32, .inl (upd (a.2 0) (a.1 4) (x)))), (q 11, .inl (cI, 32, .inl (a.2 1)))] := hD
    refine lv_aload_n hx hb dX1_put_42 rfl (lv_at hl 0 rfl) ?_
    refine va_get (D := D) (ci := 1) (v := .ref (q 11)) (C := RX1) (T := TX1) (N := 9) hx hb hts hinX1 hown hK hP 0 rfl rfl 1 (by decide) (hts _ (List.mem_of_getElem? (i := 5) rfl)) (fun _ h9 => h9) rfl dX1_put_43 ?_
    refine lv_aload_n hx hb dX1_put_46 rfl (lv_at hl 0 rfl) ?_
    refine va_get (D := D) (ci := 1) (v := .int (nI (a.1 4))) (C := RX1) (T := TX1) (N := 9) hx hb hts hinX1 hown hK hP 0 rfl rfl 2 (by decide) (hts _ (List.mem_of_getElem? (i := 1) rfl)) (fun _ h9 => h9) rfl dX1_put_47 ?_
    refine lv_iload_n hx hb dX1_put_50 rfl (lv_at hl 2 rfl) ?_
    refine k_iast hx hb hK hP hD hS 2 0 rfl rfl (by omega) (Nat.le_of_ble_eq_true rfl) dX1_put_51 (fun H locs hP hD hS => ?_)
    have hP : va_P D vwCl [(q 1, .inr (1, [.ref (q 10), .ref (q 11), .int (nI (a.1 4)), .int (nI (a.1 0)), .int (nI (a.1 1)), .int (nI (a.1 2)), .int (nI (a.1 3)), .int (nI (a.1 5)), .int (nI (a.1 6))])), (q 10, .inl (cI, 32, .inl (upd (a.2 0) (a.1 4) (x)))), (q 11, .inl (cI, 32, .inl (upd (a.2 1) (a.1 4) (nI (a.1 7)))))] H := hP
    have hD : va_D A [(q 1, .inr (1, [.ref (q 10), .ref (q 11), .int (nI (a.1 4)), .int (nI (a.1 0)), .int (nI (a.1 1)), .int (nI (a.1 2)), .int (nI (a.1 3)), .int (nI (a.1 5)), .int (nI (a.1 6))])), (q 10, .inl (cI, 32, .inl (upd (a.2 0) (a.1 4) (x)))), (q 11, .inl (cI, 32, .inl (upd (a.2 1) (a.1 4) (nI (a.1 7)))))] := hD
    refine lv_aload_n hx hb dX1_put_52 rfl (lv_at hl 0 rfl) ?_
    refine lv_dup hx hb dX1_put_53 rfl ?_
    refine va_get (D := D) (ci := 1) (v := .int (nI (a.1 4))) (C := RX1) (T := TX1) (N := 9) hx hb hts hinX1 hown hK hP 0 rfl rfl 2 (by decide) (hts _ (List.mem_of_getElem? (i := 1) rfl)) (fun _ h9 => h9) rfl dX1_put_54 ?_
    refine lv_iconst (v := nI 1) hx hb dX1_put_57 (by decide) ?_
    refine k_iadd hx hb dX1_put_58 ?_
    refine va_put (D := D) (ci := 1) (v := .int (nI ((a.1 4) + 1))) (ty := .int) (C := RX1) (T := TX1) (N := 9) hx hb hts hinX1 tyX1 tyX1_ok nmX1 hown hK hP hD hS 0 rfl rfl 2 (by decide) (hts _ (List.mem_of_getElem? (i := 1) rfl)) (fun _ h9 => h9) rfl (by decide +kernel) rfl rfl (Nat.le_of_ble_eq_true rfl) dX1_put_59 (fun H locs hP hD hS => ?_)
    have hP : va_P D vwCl [(q 1, .inr (1, [.ref (q 10), .ref (q 11), .int (nI ((a.1 4) + 1)), .int (nI (a.1 0)), .int (nI (a.1 1)), .int (nI (a.1 2)), .int (nI (a.1 3)), .int (nI (a.1 5)), .int (nI (a.1 6))])), (q 10, .inl (cI, 32, .inl (upd (a.2 0) (a.1 4) (x)))), (q 11, .inl (cI, 32, .inl (upd (a.2 1) (a.1 4) (nI (a.1 7)))))] H := hP
    have hD : va_D A [(q 1, .inr (1, [.ref (q 10), .ref (q 11), .int (nI ((a.1 4) + 1)), .int (nI (a.1 0)), .int (nI (a.1 1)), .int (nI (a.1 2)), .int (nI (a.1 3)), .int (nI (a.1 5)), .int (nI (a.1 6))])), (q 10, .inl (cI, 32, .inl (upd (a.2 0) (a.1 4) (x)))), (q 11, .inl (cI, 32, .inl (upd (a.2 1) (a.1 4) (nI (a.1 7)))))] := hD
    refine lv_iconst (v := nI 1) hx hb dX1_put_62 (by decide) ?_
    exact k_iret (v := nI 1) hx hb hr hlk (by decide) () ((if_pos c_8).symm) (by rw [a_come_t c_8]; exact hP) (by rw [a_come_t c_8]; exact hD) hS dX1_put_63
set_option maxHeartbeats 4000000 in
set_option maxRecDepth 100000 in
theorem c_X1_loseAll (l : Launch) (D : va_G) (cI cZ : ClassId) (q : Nat → Nat) (a : AS) : kMi l yX1_loseAll wsX1_loseAll 0 0 D (TY cI cZ) [.ref (q 1)] [(q 1, .inr (1, [.ref (q 10), .ref (q 11), .int (nI (a.1 4)), .int (nI (a.1 0)), .int (nI (a.1 1)), .int (nI (a.1 2)), .int (nI (a.1 3)), .int (nI (a.1 5)), .int (nI (a.1 6))])), (q 10, .inl (cI, 32, .inl (a.2 0))), (q 11, .inl (cI, 32, .inl (a.2 1)))] (fun (r : Int32) (_ : Unit) => r = nI (a.1 4)) (fun (_ : Unit) => RWa cI q (a_reset a)) := by
  intro sz
  refine k_in (Qc := fun A => va_Qi (fun (r : Int32) (_ : Unit) => r = nI (a.1 4)) (kB D A (fun (_ : Unit) => RWa cI q (a_reset a))) A) (cc := cX1_loseAll) (maxL := 2) (ret := (some .int)) (by decide) rfl (Nat.le_of_ble_eq_true rfl) ?_
  intro p e s m below meth c A ls hfix hr hlk hN hP hK hD hA hS hl
  have hfix : CallFix p m c cX1_loseAll 2 s [.ref (q 1)].toArray wsX1_loseAll RX1 := hfix
  have hl : lv_has ls 2 [(0, .ref (q 1))] := hl
  obtain ⟨hx, hb, hml, hown, hts⟩ := id hfix
  have hinX1 : ∀ w ∈ wsX10, w ∈ wsX1_loseAll := fun _ h => List.mem_cons_of_mem _ (List.mem_append_right _ h)
  have hP : va_P D vwCl [(q 1, .inr (1, [.ref (q 10), .ref (q 11), .int (nI (a.1 4)), .int (nI (a.1 0)), .int (nI (a.1 1)), .int (nI (a.1 2)), .int (nI (a.1 3)), .int (nI (a.1 5)), .int (nI (a.1 6))])), (q 10, .inl (cI, 32, .inl (a.2 0))), (q 11, .inl (cI, 32, .inl (a.2 1)))] s.heap := hP
  have hD : va_D A [(q 1, .inr (1, [.ref (q 10), .ref (q 11), .int (nI (a.1 4)), .int (nI (a.1 0)), .int (nI (a.1 1)), .int (nI (a.1 2)), .int (nI (a.1 3)), .int (nI (a.1 5)), .int (nI (a.1 6))])), (q 10, .inl (cI, 32, .inl (a.2 0))), (q 11, .inl (cI, 32, .inl (a.2 1)))] := hD
  have hS : ∃ (H : Heap) (locs : List Loc), H = s.heap ∧ locs = [] ∧ va_S A s.heap H locs := ⟨_, _, rfl, rfl, hS⟩
  obtain ⟨H, locs, hH, hlocs, hS⟩ := hS
  rw [← hH] at hP
  suffices hW9 : W p l e ({ frames := 0, cells := 0, slots := 0, locals := 0 } : Room) s m [.ref (q 1)].toArray below meth c H locs 0 0 (MQ below (va_Qi (fun (r : Int32) (_ : Unit) => r = nI (a.1 4)) (kB D A (fun (_ : Unit) => RWa cI q (a_reset a))) A) [.ref (q 1)].toArray s 0 0 A) (F0 m 0 ls []) by rw [hH, hlocs] at hW9; exact hW9
  clear hH hlocs
  refine lv_aload_n hx hb dX1_loseAll_0 rfl (lv_at hl 0 rfl) ?_
  refine va_get (D := D) (ci := 1) (v := .int (nI (a.1 4))) (C := RX1) (T := TX1) (N := 9) hx hb hts hinX1 hown hK hP 0 rfl rfl 2 (by decide) (hts _ (List.mem_of_getElem? (i := 1) rfl)) (fun _ h9 => h9) rfl dX1_loseAll_1 ?_
  refine lv_istore_n (lv' := [(1, .int (nI (a.1 4))), (0, .ref (q 1))]) hx hb dX1_loseAll_4 rfl hl (by decide) rfl (fun ls hl => ?_)
  refine lv_aload_n hx hb dX1_loseAll_5 rfl (lv_at hl 1 rfl) ?_
  refine lv_dup hx hb dX1_loseAll_6 rfl ?_
  refine va_get (D := D) (ci := 1) (v := .int (nI (a.1 6))) (C := RX1) (T := TX1) (N := 9) hx hb hts hinX1 hown hK hP 0 rfl rfl 8 (by decide) (hts _ (List.mem_of_getElem? (i := 2) rfl)) (fun _ h9 => h9) rfl dX1_loseAll_7 ?_
  refine lv_iload_n hx hb dX1_loseAll_10 rfl (lv_at hl 0 rfl) ?_
  refine k_iadd hx hb dX1_loseAll_11 ?_
  refine va_put (D := D) (ci := 1) (v := .int (nI ((a.1 6) + (a.1 4)))) (ty := .int) (C := RX1) (T := TX1) (N := 9) hx hb hts hinX1 tyX1 tyX1_ok nmX1 hown hK hP hD hS 0 rfl rfl 8 (by decide) (hts _ (List.mem_of_getElem? (i := 2) rfl)) (fun _ h9 => h9) rfl (by decide +kernel) rfl rfl (Nat.le_of_ble_eq_true rfl) dX1_loseAll_12 (fun H locs hP hD hS => ?_)
  have hP : va_P D vwCl [(q 1, .inr (1, [.ref (q 10), .ref (q 11), .int (nI (a.1 4)), .int (nI (a.1 0)), .int (nI (a.1 1)), .int (nI (a.1 2)), .int (nI (a.1 3)), .int (nI (a.1 5)), .int (nI ((a.1 6) + (a.1 4)))])), (q 10, .inl (cI, 32, .inl (a.2 0))), (q 11, .inl (cI, 32, .inl (a.2 1)))] H := hP
  have hD : va_D A [(q 1, .inr (1, [.ref (q 10), .ref (q 11), .int (nI (a.1 4)), .int (nI (a.1 0)), .int (nI (a.1 1)), .int (nI (a.1 2)), .int (nI (a.1 3)), .int (nI (a.1 5)), .int (nI ((a.1 6) + (a.1 4)))])), (q 10, .inl (cI, 32, .inl (a.2 0))), (q 11, .inl (cI, 32, .inl (a.2 1)))] := hD
  refine lv_aload_n hx hb dX1_loseAll_15 rfl (lv_at hl 1 rfl) ?_
  refine lv_iconst (v := nI 0) hx hb dX1_loseAll_16 (by decide) ?_
  refine va_put (D := D) (ci := 1) (v := .int (nI 0)) (ty := .int) (C := RX1) (T := TX1) (N := 9) hx hb hts hinX1 tyX1 tyX1_ok nmX1 hown hK hP hD hS 0 rfl rfl 2 (by decide) (hts _ (List.mem_of_getElem? (i := 1) rfl)) (fun _ h9 => h9) rfl (by decide +kernel) rfl rfl (Nat.le_of_ble_eq_true rfl) dX1_loseAll_17 (fun H locs hP hD hS => ?_)
  have hP : va_P D vwCl [(q 1, .inr (1, [.ref (q 10), .ref (q 11), .int (nI 0), .int (nI (a.1 0)), .int (nI (a.1 1)), .int (nI (a.1 2)), .int (nI (a.1 3)), .int (nI (a.1 5)), .int (nI ((a.1 6) + (a.1 4)))])), (q 10, .inl (cI, 32, .inl (a.2 0))), (q 11, .inl (cI, 32, .inl (a.2 1)))] H := hP
  have hD : va_D A [(q 1, .inr (1, [.ref (q 10), .ref (q 11), .int (nI 0), .int (nI (a.1 0)), .int (nI (a.1 1)), .int (nI (a.1 2)), .int (nI (a.1 3)), .int (nI (a.1 5)), .int (nI ((a.1 6) + (a.1 4)))])), (q 10, .inl (cI, 32, .inl (a.2 0))), (q 11, .inl (cI, 32, .inl (a.2 1)))] := hD
  refine lv_aload_n hx hb dX1_loseAll_20 rfl (lv_at hl 1 rfl) ?_
  refine lv_iconst (v := nI 0) hx hb dX1_loseAll_21 (by decide) ?_
  refine va_put (D := D) (ci := 1) (v := .int (nI 0)) (ty := .boolean) (C := RX1) (T := TX1) (N := 9) hx hb hts hinX1 tyX1 tyX1_ok nmX1 hown hK hP hD hS 0 rfl rfl 7 (by decide) (hts _ (List.mem_of_getElem? (i := 3) rfl)) (fun _ h9 => h9) rfl (by decide +kernel) (by decide) rfl (Nat.le_of_ble_eq_true rfl) dX1_loseAll_22 (fun H locs hP hD hS => ?_)
  have hP : va_P D vwCl [(q 1, .inr (1, [.ref (q 10), .ref (q 11), .int (nI 0), .int (nI (a.1 0)), .int (nI (a.1 1)), .int (nI (a.1 2)), .int (nI (a.1 3)), .int (nI 0), .int (nI ((a.1 6) + (a.1 4)))])), (q 10, .inl (cI, 32, .inl (a.2 0))), (q 11, .inl (cI, 32, .inl (a.2 1)))] H := hP
  have hD : va_D A [(q 1, .inr (1, [.ref (q 10), .ref (q 11), .int (nI 0), .int (nI (a.1 0)), .int (nI (a.1 1)), .int (nI (a.1 2)), .int (nI (a.1 3)), .int (nI 0), .int (nI ((a.1 6) + (a.1 4)))])), (q 10, .inl (cI, 32, .inl (a.2 0))), (q 11, .inl (cI, 32, .inl (a.2 1)))] := hD
  refine lv_iload_n hx hb dX1_loseAll_25 rfl (lv_at hl 0 rfl) ?_
  exact k_iret (v := nI (a.1 4)) hx hb hr hlk rfl () rfl hP hD hS dX1_loseAll_26
set_option maxHeartbeats 4000000 in
set_option maxRecDepth 100000 in
theorem c_X1_isInterruptDue (l : Launch) (D : va_G) (cI cZ : ClassId) (q : Nat → Nat) (a : AS) (hI : AI a) : kMi l yX1_isInterruptDue wsX1_isInterruptDue 0 0 D (TY cI cZ) [.ref (q 1), .int (nI (a.1 7))] [(q 1, .inr (1, [.ref (q 10), .ref (q 11), .int (nI (a.1 4)), .int (nI (a.1 0)), .int (nI (a.1 1)), .int (nI (a.1 2)), .int (nI (a.1 3)), .int (nI (a.1 5)), .int (nI (a.1 6))])), (q 10, .inl (cI, 32, .inl (a.2 0))), (q 11, .inl (cI, 32, .inl (a.2 1)))] (fun (r : Int32) (_ : Unit) => r = (if a_due a then nI 1 else nI 0)) (fun (_ : Unit) => RWa cI q a) := by
  obtain ⟨⟨i0, i4, i5, i7, i9, i10, i11, i12⟩, ⟨i1, i2, i3⟩, ⟨i8, i13, i14⟩, iQ, iH0, iH1, iW0, iW1, iN⟩ := id hI
  intro sz
  refine k_in (Qc := fun A => va_Qi (fun (r : Int32) (_ : Unit) => r = (if a_due a then nI 1 else nI 0)) (kB D A (fun (_ : Unit) => RWa cI q a)) A) (cc := cX1_isInterruptDue) (maxL := 2) (ret := (some .boolean)) (by decide) rfl (Nat.le_of_ble_eq_true rfl) ?_
  intro p e s m below meth c A ls hfix hr hlk hN hP hK hD hA hS hl
  have hfix : CallFix p m c cX1_isInterruptDue 2 s [.ref (q 1), .int (nI (a.1 7))].toArray wsX1_isInterruptDue RX1 := hfix
  have hl : lv_has ls 2 [(0, .ref (q 1)), (1, .int (nI (a.1 7)))] := hl
  obtain ⟨hx, hb, hml, hown, hts⟩ := id hfix
  have hinX1 : ∀ w ∈ wsX10, w ∈ wsX1_isInterruptDue := fun _ h => List.mem_cons_of_mem _ (List.mem_append_right _ h)
  have hP : va_P D vwCl [(q 1, .inr (1, [.ref (q 10), .ref (q 11), .int (nI (a.1 4)), .int (nI (a.1 0)), .int (nI (a.1 1)), .int (nI (a.1 2)), .int (nI (a.1 3)), .int (nI (a.1 5)), .int (nI (a.1 6))])), (q 10, .inl (cI, 32, .inl (a.2 0))), (q 11, .inl (cI, 32, .inl (a.2 1)))] s.heap := hP
  have hD : va_D A [(q 1, .inr (1, [.ref (q 10), .ref (q 11), .int (nI (a.1 4)), .int (nI (a.1 0)), .int (nI (a.1 1)), .int (nI (a.1 2)), .int (nI (a.1 3)), .int (nI (a.1 5)), .int (nI (a.1 6))])), (q 10, .inl (cI, 32, .inl (a.2 0))), (q 11, .inl (cI, 32, .inl (a.2 1)))] := hD
  have hS : ∃ (H : Heap) (locs : List Loc), H = s.heap ∧ locs = [] ∧ va_S A s.heap H locs := ⟨_, _, rfl, rfl, hS⟩
  obtain ⟨H, locs, hH, hlocs, hS⟩ := hS
  rw [← hH] at hP
  suffices hW9 : W p l e ({ frames := 0, cells := 0, slots := 0, locals := 0 } : Room) s m [.ref (q 1), .int (nI (a.1 7))].toArray below meth c H locs 0 0 (MQ below (va_Qi (fun (r : Int32) (_ : Unit) => r = (if a_due a then nI 1 else nI 0)) (kB D A (fun (_ : Unit) => RWa cI q a)) A) [.ref (q 1), .int (nI (a.1 7))].toArray s 0 0 A) (F0 m 0 ls []) by rw [hH, hlocs] at hW9; exact hW9
  clear hH hlocs
  refine lv_aload_n hx hb dX1_isInterruptDue_0 rfl (lv_at hl 0 rfl) ?_
  refine va_get (D := D) (ci := 1) (v := .int (nI (a.1 4))) (C := RX1) (T := TX1) (N := 9) hx hb hts hinX1 hown hK hP 0 rfl rfl 2 (by decide) (hts _ (List.mem_of_getElem? (i := 1) rfl)) (fun _ h9 => h9) rfl dX1_isInterruptDue_1 ?_
  refine lv_aload_n hx hb dX1_isInterruptDue_4 rfl (lv_at hl 0 rfl) ?_
  refine va_get (D := D) (ci := 1) (v := .int (nI (a.1 1))) (C := RX1) (T := TX1) (N := 9) hx hb hts hinX1 hown hK hP 0 rfl rfl 4 (by decide) (hts _ (List.mem_of_getElem? (i := 2) rfl)) (fun _ h9 => h9) rfl dX1_isInterruptDue_5 ?_
  refine k_icmp_ge (tgt := 33) hx hb (by omega) (by omega) dX1_isInterruptDue_8 (by decide) (fun c_8 => ?_) (fun c_8 => ?_)
  · -- c_8 taken
    refine lv_iconst (v := nI 1) hx hb dX1_isInterruptDue_33 (by decide) ?_
    refine lv_goto (tgt := 38) hx hb dX1_isInterruptDue_34 (by decide) ?_
    exact k_iret (v := nI 1) hx hb hr hlk (by decide) () ((if_pos (Or.inl c_8)).symm) hP hD hS dX1_isInterruptDue_38
  · -- c_8 not taken
    refine lv_aload_n hx hb dX1_isInterruptDue_11 rfl (lv_at hl 0 rfl) ?_
    refine va_get (D := D) (ci := 1) (v := .int (nI (a.1 4))) (C := RX1) (T := TX1) (N := 9) hx hb hts hinX1 hown hK hP 0 rfl rfl 2 (by decide) (hts _ (List.mem_of_getElem? (i := 1) rfl)) (fun _ h9 => h9) rfl dX1_isInterruptDue_12 ?_
    refine k_if_le (tgt := 37) hx hb (by omega) dX1_isInterruptDue_15 (by decide) (fun c_15 => ?_) (fun c_15 => ?_)
    · -- c_15 taken
      refine lv_iconst (v := nI 0) hx hb dX1_isInterruptDue_37 (by decide) ?_
      exact k_iret (v := nI 0) hx hb hr hlk (by decide) () ((if_neg (fun h => h.elim (fun h => by omega) (fun h => by have := h.1; omega))).symm) hP hD hS dX1_isInterruptDue_38
    · -- c_15 not taken
      refine lv_iload_n hx hb dX1_isInterruptDue_18 rfl (lv_at hl 1 rfl) ?_
      refine lv_aload_n hx hb dX1_isInterruptDue_19 rfl (lv_at hl 0 rfl) ?_
      refine va_get (D := D) (ci := 1) (v := .ref (q 11)) (C := RX1) (T := TX1) (N := 9) hx hb hts hinX1 hown hK hP 0 rfl rfl 1 (by decide) (hts _ (List.mem_of_getElem? (i := 3) rfl)) (fun _ h9 => h9) rfl dX1_isInterruptDue_20 ?_
      refine lv_iconst (v := nI 0) hx hb dX1_isInterruptDue_23 (by decide) ?_
      refine k_iald hx hb hK hP 2 0 rfl rfl (by omega) (Nat.le_of_ble_eq_true rfl) dX1_isInterruptDue_24 ?_
      refine lv_isub hx hb dX1_isInterruptDue_25 ?_
      refine lv_aload_n hx hb dX1_isInterruptDue_26 rfl (lv_at hl 0 rfl) ?_
      refine va_get (D := D) (ci := 1) (v := .int (nI (a.1 2))) (C := RX1) (T := TX1) (N := 9) hx hb hts hinX1 hown hK hP 0 rfl rfl 5 (by decide) (hts _ (List.mem_of_getElem? (i := 4) rfl)) (fun _ h9 => h9) rfl dX1_isInterruptDue_27 ?_
      refine lv_icmp_lt (tgt := 37) hx hb dX1_isInterruptDue_30 (by decide) (fun c_30 => ?_) (fun c_30 => ?_)
      · -- c_30 taken
        refine lv_iconst (v := nI 0) hx hb dX1_isInterruptDue_37 (by decide) ?_
        exact k_iret (v := nI 0) hx hb hr hlk (by decide) () ((if_neg (fun h => h.elim (fun h => by omega) (fun h => absurd h.2 (Int32.not_le.mpr c_30)))).symm) hP hD hS dX1_isInterruptDue_38
      · -- c_30 not taken
        refine lv_iconst (v := nI 1) hx hb dX1_isInterruptDue_33 (by decide) ?_
        refine lv_goto (tgt := 38) hx hb dX1_isInterruptDue_34 (by decide) ?_
        exact k_iret (v := nI 1) hx hb hr hlk (by decide) () ((if_pos (Or.inr ⟨c_15, Int32.not_lt.mp c_30⟩)).symm) hP hD hS dX1_isInterruptDue_38
set_option maxHeartbeats 4000000 in
set_option maxRecDepth 100000 in
theorem c_X1_chooseMany (l : Launch) (D : va_G) (cI cZ : ClassId) (q : Nat → Nat) (a : AS) (hI : AI a) : kMi l yX1_chooseMany wsX1_chooseMany 1 24 D (TY cI cZ) [.ref (q 1), .int (nI (a.1 7))] [(q 1, .inr (1, [.ref (q 10), .ref (q 11), .int (nI (a.1 4)), .int (nI (a.1 0)), .int (nI (a.1 1)), .int (nI (a.1 2)), .int (nI (a.1 3)), .int (nI (a.1 5)), .int (nI (a.1 6))])), (q 10, .inl (cI, 32, .inl (a.2 0))), (q 11, .inl (cI, 32, .inl (a.2 1)))] (fun (r : Int32) (_ : Unit) => r = nI (a_many a)) (fun (_ : Unit) => RWa cI q (sN a 5 (a_polN a))) := by
  obtain ⟨⟨i0, i4, i5, i7, i9, i10, i11, i12⟩, ⟨i1, i2, i3⟩, ⟨i8, i13, i14⟩, iQ, iH0, iH1, iW0, iW1, iN⟩ := id hI
  intro sz
  refine k_in (Qc := fun A => va_Qi (fun (r : Int32) (_ : Unit) => r = nI (a_many a)) (kB D A (fun (_ : Unit) => RWa cI q (sN a 5 (a_polN a)))) A) (cc := cX1_chooseMany) (maxL := 3) (ret := (some .int)) (by decide) rfl (Nat.le_of_ble_eq_true rfl) ?_
  intro p e s m below meth c A ls hfix hr hlk hN hP hK hD hA hS hl
  have hfix : CallFix p m c cX1_chooseMany 3 s [.ref (q 1), .int (nI (a.1 7))].toArray wsX1_chooseMany RX1 := hfix
  have hl : lv_has ls 3 [(0, .ref (q 1)), (1, .int (nI (a.1 7)))] := hl
  obtain ⟨hx, hb, hml, hown, hts⟩ := id hfix
  have hinX1 : ∀ w ∈ wsX10, w ∈ wsX1_chooseMany := fun _ h => List.mem_cons_of_mem _ (List.mem_append_right _ h)
  have hP : va_P D vwCl [(q 1, .inr (1, [.ref (q 10), .ref (q 11), .int (nI (a.1 4)), .int (nI (a.1 0)), .int (nI (a.1 1)), .int (nI (a.1 2)), .int (nI (a.1 3)), .int (nI (a.1 5)), .int (nI (a.1 6))])), (q 10, .inl (cI, 32, .inl (a.2 0))), (q 11, .inl (cI, 32, .inl (a.2 1)))] s.heap := hP
  have hD : va_D A [(q 1, .inr (1, [.ref (q 10), .ref (q 11), .int (nI (a.1 4)), .int (nI (a.1 0)), .int (nI (a.1 1)), .int (nI (a.1 2)), .int (nI (a.1 3)), .int (nI (a.1 5)), .int (nI (a.1 6))])), (q 10, .inl (cI, 32, .inl (a.2 0))), (q 11, .inl (cI, 32, .inl (a.2 1)))] := hD
  have hS : ∃ (H : Heap) (locs : List Loc), H = s.heap ∧ locs = [] ∧ va_S A s.heap H locs := ⟨_, _, rfl, rfl, hS⟩
  obtain ⟨H, locs, hH, hlocs, hS⟩ := hS
  rw [← hH] at hP
  suffices hW9 : W p l e ({ frames := 1, cells := 0, slots := 0, locals := 24 } : Room) s m [.ref (q 1), .int (nI (a.1 7))].toArray below meth c H locs 0 0 (MQ below (va_Qi (fun (r : Int32) (_ : Unit) => r = nI (a_many a)) (kB D A (fun (_ : Unit) => RWa cI q (sN a 5 (a_polN a)))) A) [.ref (q 1), .int (nI (a.1 7))].toArray s 0 0 A) (F0 m 0 ls []) by rw [hH, hlocs] at hW9; exact hW9
  clear hH hlocs
  refine lv_aload_n hx hb dX1_chooseMany_0 rfl (lv_at hl 0 rfl) ?_
  refine va_get (D := D) (ci := 1) (v := .int (nI (a.1 5))) (C := RX1) (T := TX1) (N := 9) hx hb hts hinX1 hown hK hP 0 rfl rfl 7 (by decide) (hts _ (List.mem_of_getElem? (i := 1) rfl)) (fun _ h9 => h9) rfl dX1_chooseMany_1 ?_
  refine k_if_eq (tgt := 32) hx hb (by omega) dX1_chooseMany_4 (by decide) (fun c_4 => ?_) (fun c_4 => ?_)
  · -- c_4 taken
    refine lv_aload_n hx hb dX1_chooseMany_32 rfl (lv_at hl 0 rfl) ?_
    refine lv_iload_n hx hb dX1_chooseMany_33 rfl (lv_at hl 1 rfl) ?_
    refine k_callVi (n := 1) (wr := []) (As := [.int (nI (a.1 7))]) (rest := []) hfix hN hK hP hD hS hA hl.1 (c_X1_isInterruptDue l D cI cZ q a hI) gX1_chooseMany_X1_isInterruptDue rfl (by decide +kernel) rfl ⟨Nat.le_of_ble_eq_true rfl, Nat.le_of_ble_eq_true rfl⟩ [0, 1, 2] [] rfl rfl (by decide) (by decide) (by decide) 0 rfl rfl rfl (Nat.le_of_ble_eq_true rfl) ⟨Nat.zero_le _, Nat.zero_le _⟩ dX1_chooseMany_34 (fun r_34 u H locs hw_34 hP hD hS => ?_)
    have hP : va_P D vwCl [(q 1, .inr (1, [.ref (q 10), .ref (q 11), .int (nI (a.1 4)), .int (nI (a.1 0)), .int (nI (a.1 1)), .int (nI (a.1 2)), .int (nI (a.1 3)), .int (nI (a.1 5)), .int (nI (a.1 6))])), (q 10, .inl (cI, 32, .inl (a.2 0))), (q 11, .inl (cI, 32, .inl (a.2 1)))] H := hP.sub [0, 1, 2] rfl
    have hD : va_D A [(q 1, .inr (1, [.ref (q 10), .ref (q 11), .int (nI (a.1 4)), .int (nI (a.1 0)), .int (nI (a.1 1)), .int (nI (a.1 2)), .int (nI (a.1 3)), .int (nI (a.1 5)), .int (nI (a.1 6))])), (q 10, .inl (cI, 32, .inl (a.2 0))), (q 11, .inl (cI, 32, .inl (a.2 1)))] := hD.sub [0, 1, 2] (by decide) rfl
    by_cases e_34 : a_due a
    · rw [if_pos e_34] at hw_34
      obtain rfl : r_34 = nI 1 := hw_34
      refine k_if_ne (tgt := 42) hx hb (by decide) dX1_chooseMany_37 (by decide) (fun _ => ?_) (fun q => absurd q (by decide))
      refine lv_aload_n hx hb dX1_chooseMany_42 rfl (lv_at hl 0 rfl) ?_
      refine lv_aload_n hx hb dX1_chooseMany_43 rfl (lv_at hl 0 rfl) ?_
      refine va_get (D := D) (ci := 1) (v := .int (nI (a.1 4))) (C := RX1) (T := TX1) (N := 9) hx hb hts hinX1 hown hK hP 0 rfl rfl 2 (by decide) (hts _ (List.mem_of_getElem? (i := 2) rfl)) (fun _ h9 => h9) rfl dX1_chooseMany_44 ?_
      refine lv_aload_n hx hb dX1_chooseMany_47 rfl (lv_at hl 0 rfl) ?_
      refine va_get (D := D) (ci := 1) (v := .int (nI (a.1 3))) (C := RX1) (T := TX1) (N := 9) hx hb hts hinX1 hown hK hP 0 rfl rfl 6 (by decide) (hts _ (List.mem_of_getElem? (i := 7) rfl)) (fun _ h9 => h9) rfl dX1_chooseMany_48 ?_
      refine k_icmp_lt (tgt := 58) hx hb (by omega) (by omega) dX1_chooseMany_51 (by decide) (fun c_51 => ?_) (fun c_51 => ?_)
      · -- c_51 taken
        refine lv_iconst (v := nI 0) hx hb dX1_chooseMany_58 (by decide) ?_
        refine va_put (D := D) (ci := 1) (v := .int (nI 0)) (ty := .boolean) (C := RX1) (T := TX1) (N := 9) hx hb hts hinX1 tyX1 tyX1_ok nmX1 hown hK hP hD hS 0 rfl rfl 7 (by decide) (hts _ (List.mem_of_getElem? (i := 1) rfl)) (fun _ h9 => h9) rfl (by decide +kernel) (by decide) rfl (Nat.le_of_ble_eq_true rfl) dX1_chooseMany_59 (fun H locs hP hD hS => ?_)
        have hP : va_P D vwCl [(q 1, .inr (1, [.ref (q 10), .ref (q 11), .int (nI (a.1 4)), .int (nI (a.1 0)), .int (nI (a.1 1)), .int (nI (a.1 2)), .int (nI (a.1 3)), .int (nI 0), .int (nI (a.1 6))])), (q 10, .inl (cI, 32, .inl (a.2 0))), (q 11, .inl (cI, 32, .inl (a.2 1)))] H := hP
        have hD : va_D A [(q 1, .inr (1, [.ref (q 10), .ref (q 11), .int (nI (a.1 4)), .int (nI (a.1 0)), .int (nI (a.1 1)), .int (nI (a.1 2)), .int (nI (a.1 3)), .int (nI 0), .int (nI (a.1 6))])), (q 10, .inl (cI, 32, .inl (a.2 0))), (q 11, .inl (cI, 32, .inl (a.2 1)))] := hD
        refine lv_aload_n hx hb dX1_chooseMany_62 rfl (lv_at hl 0 rfl) ?_
        refine va_get (D := D) (ci := 1) (v := .int (nI (a.1 4))) (C := RX1) (T := TX1) (N := 9) hx hb hts hinX1 hown hK hP 0 rfl rfl 2 (by decide) (hts _ (List.mem_of_getElem? (i := 2) rfl)) (fun _ h9 => h9) rfl dX1_chooseMany_63 ?_
        exact k_iret (v := nI (a.1 4)) hx hb hr hlk rfl () (by rw [a_many, if_pos c_4, if_pos e_34]) (by rw [show a_polN a = 0 from by rw [a_polN, if_pos c_4, if_pos e_34, if_neg (by omega)]]; exact hP) (by rw [show a_polN a = 0 from by rw [a_polN, if_pos c_4, if_pos e_34, if_neg (by omega)]]; exact hD) hS dX1_chooseMany_66
      · -- c_51 not taken
        refine lv_iconst (v := nI 1) hx hb dX1_chooseMany_54 (by decide) ?_
        refine lv_goto (tgt := 59) hx hb dX1_chooseMany_55 (by decide) ?_
        refine va_put (D := D) (ci := 1) (v := .int (nI 1)) (ty := .boolean) (C := RX1) (T := TX1) (N := 9) hx hb hts hinX1 tyX1 tyX1_ok nmX1 hown hK hP hD hS 0 rfl rfl 7 (by decide) (hts _ (List.mem_of_getElem? (i := 1) rfl)) (fun _ h9 => h9) rfl (by decide +kernel) (by decide) rfl (Nat.le_of_ble_eq_true rfl) dX1_chooseMany_59 (fun H locs hP hD hS => ?_)
        have hP : va_P D vwCl [(q 1, .inr (1, [.ref (q 10), .ref (q 11), .int (nI (a.1 4)), .int (nI (a.1 0)), .int (nI (a.1 1)), .int (nI (a.1 2)), .int (nI (a.1 3)), .int (nI 1), .int (nI (a.1 6))])), (q 10, .inl (cI, 32, .inl (a.2 0))), (q 11, .inl (cI, 32, .inl (a.2 1)))] H := hP
        have hD : va_D A [(q 1, .inr (1, [.ref (q 10), .ref (q 11), .int (nI (a.1 4)), .int (nI (a.1 0)), .int (nI (a.1 1)), .int (nI (a.1 2)), .int (nI (a.1 3)), .int (nI 1), .int (nI (a.1 6))])), (q 10, .inl (cI, 32, .inl (a.2 0))), (q 11, .inl (cI, 32, .inl (a.2 1)))] := hD
        refine lv_aload_n hx hb dX1_chooseMany_62 rfl (lv_at hl 0 rfl) ?_
        refine va_get (D := D) (ci := 1) (v := .int (nI (a.1 4))) (C := RX1) (T := TX1) (N := 9) hx hb hts hinX1 hown hK hP 0 rfl rfl 2 (by decide) (hts _ (List.mem_of_getElem? (i := 2) rfl)) (fun _ h9 => h9) rfl dX1_chooseMany_63 ?_
        exact k_iret (v := nI (a.1 4)) hx hb hr hlk rfl () (by rw [a_many, if_pos c_4, if_pos e_34]) (by rw [show a_polN a = 1 from by rw [a_polN, if_pos c_4, if_pos e_34, if_pos (by omega)]]; exact hP) (by rw [show a_polN a = 1 from by rw [a_polN, if_pos c_4, if_pos e_34, if_pos (by omega)]]; exact hD) hS dX1_chooseMany_66
    · rw [if_neg e_34] at hw_34
      obtain rfl : r_34 = nI 0 := hw_34
      refine k_if_ne (tgt := 42) hx hb (by decide) dX1_chooseMany_37 (by decide) (fun q => absurd q (by decide)) (fun _ => ?_)
      refine lv_iconst (v := nI 0) hx hb dX1_chooseMany_40 (by decide) ?_
      exact k_iret (v := nI 0) hx hb hr hlk rfl () (by rw [a_many, if_pos c_4, if_neg e_34]) (by rw [show a_polN a = a.1 5 from by rw [a_polN, if_pos c_4, if_neg e_34, c_4]]; exact hP) (by rw [show a_polN a = a.1 5 from by rw [a_polN, if_pos c_4, if_neg e_34, c_4]]; exact hD) hS dX1_chooseMany_41
  · -- c_4 not taken
    refine lv_aload_n hx hb dX1_chooseMany_7 rfl (lv_at hl 0 rfl) ?_
    refine va_get (D := D) (ci := 1) (v := .int (nI (a.1 4))) (C := RX1) (T := TX1) (N := 9) hx hb hts hinX1 hown hK hP 0 rfl rfl 2 (by decide) (hts _ (List.mem_of_getElem? (i := 2) rfl)) (fun _ h9 => h9) rfl dX1_chooseMany_8 ?_
    refine lv_bipush (v := nI 6) hx hb dX1_chooseMany_11 (by decide) ?_
    refine va_mmin hx hb (hml.trans hl.1.symm) hown (hts _ (List.mem_of_getElem? (i := 3) rfl)) (hts _ (List.mem_of_getElem? (i := 4) rfl)) (hts _ (List.mem_of_getElem? (i := 5) rfl)) (hts _ (List.mem_of_getElem? (i := 6) rfl)) (Nat.le_of_ble_eq_true rfl) (Nat.le_of_ble_eq_true rfl) (Nat.zero_le _) (Nat.zero_le _) dX1_chooseMany_13 ?_
    rw [show (if nI 6 < nI (a.1 4) then nI 6 else nI (a.1 4)) = nI (min (a.1 4) 6) from k_min (by omega) (by omega)]
    refine lv_istore_n (lv' := [(2, .int (nI (min (a.1 4) 6))), (0, .ref (q 1)), (1, .int (nI (a.1 7)))]) hx hb dX1_chooseMany_16 rfl hl (by decide) rfl (fun ls hl => ?_)
    refine lv_aload_n hx hb dX1_chooseMany_17 rfl (lv_at hl 1 rfl) ?_
    refine lv_iload_n hx hb dX1_chooseMany_18 rfl (lv_at hl 0 rfl) ?_
    refine k_if_le (tgt := 26) hx hb (by omega) dX1_chooseMany_19 (by decide) (fun c_19 => ?_) (fun c_19 => ?_)
    · -- c_19 taken
      refine lv_iconst (v := nI 0) hx hb dX1_chooseMany_26 (by decide) ?_
      refine va_put (D := D) (ci := 1) (v := .int (nI 0)) (ty := .boolean) (C := RX1) (T := TX1) (N := 9) hx hb hts hinX1 tyX1 tyX1_ok nmX1 hown hK hP hD hS 0 rfl rfl 7 (by decide) (hts _ (List.mem_of_getElem? (i := 1) rfl)) (fun _ h9 => h9) rfl (by decide +kernel) (by decide) rfl (Nat.le_of_ble_eq_true rfl) dX1_chooseMany_27 (fun H locs hP hD hS => ?_)
      have hP : va_P D vwCl [(q 1, .inr (1, [.ref (q 10), .ref (q 11), .int (nI (a.1 4)), .int (nI (a.1 0)), .int (nI (a.1 1)), .int (nI (a.1 2)), .int (nI (a.1 3)), .int (nI 0), .int (nI (a.1 6))])), (q 10, .inl (cI, 32, .inl (a.2 0))), (q 11, .inl (cI, 32, .inl (a.2 1)))] H := hP
      have hD : va_D A [(q 1, .inr (1, [.ref (q 10), .ref (q 11), .int (nI (a.1 4)), .int (nI (a.1 0)), .int (nI (a.1 1)), .int (nI (a.1 2)), .int (nI (a.1 3)), .int (nI 0), .int (nI (a.1 6))])), (q 10, .inl (cI, 32, .inl (a.2 0))), (q 11, .inl (cI, 32, .inl (a.2 1)))] := hD
      refine lv_iload_n hx hb dX1_chooseMany_30 rfl (lv_at hl 0 rfl) ?_
      exact k_iret (v := nI (min (a.1 4) 6)) hx hb hr hlk rfl () (by rw [a_many, if_neg c_4]) (by rw [show a_polN a = 0 from by rw [a_polN, if_neg c_4, if_neg (by omega)]]; exact hP) (by rw [show a_polN a = 0 from by rw [a_polN, if_neg c_4, if_neg (by omega)]]; exact hD) hS dX1_chooseMany_31
    · -- c_19 not taken
      refine lv_iconst (v := nI 1) hx hb dX1_chooseMany_22 (by decide) ?_
      refine lv_goto (tgt := 27) hx hb dX1_chooseMany_23 (by decide) ?_
      refine va_put (D := D) (ci := 1) (v := .int (nI 1)) (ty := .boolean) (C := RX1) (T := TX1) (N := 9) hx hb hts hinX1 tyX1 tyX1_ok nmX1 hown hK hP hD hS 0 rfl rfl 7 (by decide) (hts _ (List.mem_of_getElem? (i := 1) rfl)) (fun _ h9 => h9) rfl (by decide +kernel) (by decide) rfl (Nat.le_of_ble_eq_true rfl) dX1_chooseMany_27 (fun H locs hP hD hS => ?_)
      have hP : va_P D vwCl [(q 1, .inr (1, [.ref (q 10), .ref (q 11), .int (nI (a.1 4)), .int (nI (a.1 0)), .int (nI (a.1 1)), .int (nI (a.1 2)), .int (nI (a.1 3)), .int (nI 1), .int (nI (a.1 6))])), (q 10, .inl (cI, 32, .inl (a.2 0))), (q 11, .inl (cI, 32, .inl (a.2 1)))] H := hP
      have hD : va_D A [(q 1, .inr (1, [.ref (q 10), .ref (q 11), .int (nI (a.1 4)), .int (nI (a.1 0)), .int (nI (a.1 1)), .int (nI (a.1 2)), .int (nI (a.1 3)), .int (nI 1), .int (nI (a.1 6))])), (q 10, .inl (cI, 32, .inl (a.2 0))), (q 11, .inl (cI, 32, .inl (a.2 1)))] := hD
      refine lv_iload_n hx hb dX1_chooseMany_30 rfl (lv_at hl 0 rfl) ?_
      exact k_iret (v := nI (min (a.1 4) 6)) hx hb hr hlk rfl () (by rw [a_many, if_neg c_4]) (by rw [show a_polN a = 1 from by rw [a_polN, if_neg c_4, if_pos (by omega)]]; exact hP) (by rw [show a_polN a = 1 from by rw [a_polN, if_neg c_4, if_pos (by omega)]]; exact hD) hS dX1_chooseMany_31
set_option maxHeartbeats 4000000 in
set_option maxRecDepth 100000 in
theorem c_X1_packetAt (l : Launch) (D : va_G) (cI cZ : ClassId) (q : Nat → Nat) (a : AS) (i4 : a.1 4 ≤ 32) (k : Nat) (hk : k < a.1 4) (hq : vp_in (a.2 0 k) 300) : kMi l yX1_packetAt wsX1_packetAt 0 0 D (TY cI cZ) [.ref (q 1), .int (nI k)] [(q 1, .inr (1, [.ref (q 10), .ref (q 11), .int (nI (a.1 4)), .int (nI (a.1 0)), .int (nI (a.1 1)), .int (nI (a.1 2)), .int (nI (a.1 3)), .int (nI (a.1 5)), .int (nI (a.1 6))])), (q 10, .inl (cI, 32, .inl (a.2 0))), (q 11, .inl (cI, 32, .inl (a.2 1)))] (fun (r : Int32) (_ : Unit) => r = nI (a.2 0 k).toNatClampNeg) (fun (_ : Unit) => RWa cI q a) := by
  intro sz
  refine k_in (Qc := fun A => va_Qi (fun (r : Int32) (_ : Unit) => r = nI (a.2 0 k).toNatClampNeg) (kB D A (fun (_ : Unit) => RWa cI q a)) A) (cc := cX1_packetAt) (maxL := 2) (ret := (some .int)) (by decide) rfl (Nat.le_of_ble_eq_true rfl) ?_
  intro p e s m below meth c A ls hfix hr hlk hN hP hK hD hA hS hl
  have hfix : CallFix p m c cX1_packetAt 2 s [.ref (q 1), .int (nI k)].toArray wsX1_packetAt RX1 := hfix
  have hl : lv_has ls 2 [(0, .ref (q 1)), (1, .int (nI k))] := hl
  obtain ⟨hx, hb, hml, hown, hts⟩ := id hfix
  have hinX1 : ∀ w ∈ wsX10, w ∈ wsX1_packetAt := fun _ h => List.mem_cons_of_mem _ (List.mem_append_right _ h)
  have hP : va_P D vwCl [(q 1, .inr (1, [.ref (q 10), .ref (q 11), .int (nI (a.1 4)), .int (nI (a.1 0)), .int (nI (a.1 1)), .int (nI (a.1 2)), .int (nI (a.1 3)), .int (nI (a.1 5)), .int (nI (a.1 6))])), (q 10, .inl (cI, 32, .inl (a.2 0))), (q 11, .inl (cI, 32, .inl (a.2 1)))] s.heap := hP
  have hD : va_D A [(q 1, .inr (1, [.ref (q 10), .ref (q 11), .int (nI (a.1 4)), .int (nI (a.1 0)), .int (nI (a.1 1)), .int (nI (a.1 2)), .int (nI (a.1 3)), .int (nI (a.1 5)), .int (nI (a.1 6))])), (q 10, .inl (cI, 32, .inl (a.2 0))), (q 11, .inl (cI, 32, .inl (a.2 1)))] := hD
  have hS : ∃ (H : Heap) (locs : List Loc), H = s.heap ∧ locs = [] ∧ va_S A s.heap H locs := ⟨_, _, rfl, rfl, hS⟩
  obtain ⟨H, locs, hH, hlocs, hS⟩ := hS
  rw [← hH] at hP
  suffices hW9 : W p l e ({ frames := 0, cells := 0, slots := 0, locals := 0 } : Room) s m [.ref (q 1), .int (nI k)].toArray below meth c H locs 0 0 (MQ below (va_Qi (fun (r : Int32) (_ : Unit) => r = nI (a.2 0 k).toNatClampNeg) (kB D A (fun (_ : Unit) => RWa cI q a)) A) [.ref (q 1), .int (nI k)].toArray s 0 0 A) (F0 m 0 ls []) by rw [hH, hlocs] at hW9; exact hW9
  clear hH hlocs
  refine lv_iload_n hx hb dX1_packetAt_0 rfl (lv_at hl 1 rfl) ?_
  refine k_if_lt (tgt := 27) hx hb (by omega) dX1_packetAt_1 (by decide) ?_
  refine lv_iload_n hx hb dX1_packetAt_4 rfl (lv_at hl 1 rfl) ?_
  refine lv_aload_n hx hb dX1_packetAt_5 rfl (lv_at hl 0 rfl) ?_
  refine va_get (D := D) (ci := 1) (v := .int (nI (a.1 4))) (C := RX1) (T := TX1) (N := 9) hx hb hts hinX1 hown hK hP 0 rfl rfl 2 (by decide) (hts _ (List.mem_of_getElem? (i := 1) rfl)) (fun _ h9 => h9) rfl dX1_packetAt_6 ?_
  refine k_icmp_ge (tgt := 27) hx hb (by omega) (by omega) dX1_packetAt_9 (by decide) (fun c_9 => absurd c_9 (by omega)) (fun c_9 => ?_)
  refine lv_iload_n hx hb dX1_packetAt_12 rfl (lv_at hl 1 rfl) ?_
  refine lv_bipush (v := nI 32) hx hb dX1_packetAt_13 (by decide) ?_
  refine k_icmp_ge (tgt := 27) hx hb (by omega) (by omega) dX1_packetAt_15 (by decide) (fun c_15 => absurd c_15 (by omega)) (fun c_15 => ?_)
  refine lv_aload_n hx hb dX1_packetAt_18 rfl (lv_at hl 0 rfl) ?_
  refine va_get (D := D) (ci := 1) (v := .ref (q 10)) (C := RX1) (T := TX1) (N := 9) hx hb hts hinX1 hown hK hP 0 rfl rfl 0 (by decide) (hts _ (List.mem_of_getElem? (i := 2) rfl)) (fun _ h9 => h9) rfl dX1_packetAt_19 ?_
  refine lv_iload_n hx hb dX1_packetAt_22 rfl (lv_at hl 1 rfl) ?_
  refine k_iald hx hb hK hP 1 0 rfl rfl (by omega) (Nat.le_of_ble_eq_true rfl) dX1_packetAt_23 ?_
  refine lv_goto (tgt := 28) hx hb dX1_packetAt_24 (by decide) ?_
  exact k_iret (v := ((a.2 0) k)) hx hb hr hlk rfl () (vp_nI hq (by decide)) hP hD hS dX1_packetAt_28
set_option maxHeartbeats 4000000 in
set_option maxRecDepth 100000 in
theorem c_X1_removeFirst (l : Launch) (D : va_G) (cI cZ : ClassId) (q : Nat → Nat) (a : AS) (i4 : a.1 4 ≤ 32) (k : Nat) (hk : k ≤ a.1 4) : kMv l yX1_removeFirst wsX1_removeFirst 1 24 D (TY cI cZ) [.ref (q 1), .int (nI k)] [(q 1, .inr (1, [.ref (q 10), .ref (q 11), .int (nI (a.1 4)), .int (nI (a.1 0)), .int (nI (a.1 1)), .int (nI (a.1 2)), .int (nI (a.1 3)), .int (nI (a.1 5)), .int (nI (a.1 6))])), (q 10, .inl (cI, 32, .inl (a.2 0))), (q 11, .inl (cI, 32, .inl (a.2 1)))] (fun (_ : Unit) => True) (fun (_ : Unit) => RWa cI q (a_rest k a)) := by
  intro sz
  refine k_in (Qc := fun A => va_Qv (fun (_ : Unit) => True) (kB D A (fun (_ : Unit) => RWa cI q (a_rest k a))) A) (cc := cX1_removeFirst) (maxL := 5) (ret := none) (by decide) rfl (Nat.le_of_ble_eq_true rfl) ?_
  intro p e s m below meth c A ls hfix hr hlk hN hP hK hD hA hS hl
  have hfix : CallFix p m c cX1_removeFirst 5 s [.ref (q 1), .int (nI k)].toArray wsX1_removeFirst RX1 := hfix
  have hl : lv_has ls 5 [(0, .ref (q 1)), (1, .int (nI k))] := hl
  obtain ⟨hx, hb, hml, hown, hts⟩ := id hfix
  have hinX1 : ∀ w ∈ wsX10, w ∈ wsX1_removeFirst := fun _ h => List.mem_cons_of_mem _ (List.mem_append_right _ h)
  have hP : va_P D vwCl [(q 1, .inr (1, [.ref (q 10), .ref (q 11), .int (nI (a.1 4)), .int (nI (a.1 0)), .int (nI (a.1 1)), .int (nI (a.1 2)), .int (nI (a.1 3)), .int (nI (a.1 5)), .int (nI (a.1 6))])), (q 10, .inl (cI, 32, .inl (a.2 0))), (q 11, .inl (cI, 32, .inl (a.2 1)))] s.heap := hP
  have hD : va_D A [(q 1, .inr (1, [.ref (q 10), .ref (q 11), .int (nI (a.1 4)), .int (nI (a.1 0)), .int (nI (a.1 1)), .int (nI (a.1 2)), .int (nI (a.1 3)), .int (nI (a.1 5)), .int (nI (a.1 6))])), (q 10, .inl (cI, 32, .inl (a.2 0))), (q 11, .inl (cI, 32, .inl (a.2 1)))] := hD
  have hS : ∃ (H : Heap) (locs : List Loc), H = s.heap ∧ locs = [] ∧ va_S A s.heap H locs := ⟨_, _, rfl, rfl, hS⟩
  obtain ⟨H, locs, hH, hlocs, hS⟩ := hS
  rw [← hH] at hP
  suffices hW9 : W p l e ({ frames := 1, cells := 0, slots := 0, locals := 24 } : Room) s m [.ref (q 1), .int (nI k)].toArray below meth c H locs 0 0 (MQ below (va_Qv (fun (_ : Unit) => True) (kB D A (fun (_ : Unit) => RWa cI q (a_rest k a))) A) [.ref (q 1), .int (nI k)].toArray s 0 0 A) (F0 m 0 ls []) by rw [hH, hlocs] at hW9; exact hW9
  clear hH hlocs
  have at11 : ∀ (n9 : Nat) (i : Nat) (hf9 : (a.1 4 - k - i) < n9) (hi : i ≤ a.1 4 - k) (H : Heap) (locs : List Loc) (ls : Array Slot) (hP : va_P D vwCl [(q 1, .inr (1, [.ref (q 10), .ref (q 11), .int (nI (a.1 4)), .int (nI (a.1 0)), .int (nI (a.1 1)), .int (nI (a.1 2)), .int (nI (a.1 3)), .int (nI (a.1 5)), .int (nI (a.1 6))])), (q 10, .inl (cI, 32, .inl (shp (a.2 0) k i))), (q 11, .inl (cI, 32, .inl (shp (a.2 1) k i)))] H) (hD : va_D A [(q 1, .inr (1, [.ref (q 10), .ref (q 11), .int (nI (a.1 4)), .int (nI (a.1 0)), .int (nI (a.1 1)), .int (nI (a.1 2)), .int (nI (a.1 3)), .int (nI (a.1 5)), .int (nI (a.1 6))])), (q 10, .inl (cI, 32, .inl (shp (a.2 0) k i))), (q 11, .inl (cI, 32, .inl (shp (a.2 1) k i)))]) (hS : va_S A s.heap H locs) (hl : lv_has ls 5 [(0, .ref (q 1)), (1, .int (nI k)), (2, .int (nI k)), (3, .int (nI i)), (4, .int (nI (k + i)))]), W p l e ({ frames := 1, cells := 0, slots := 0, locals := 24 } : Room) s m [.ref (q 1), .int (nI k)].toArray below meth c H locs 0 0 (MQ below (va_Qv (fun (_ : Unit) => True) (kB D A (fun (_ : Unit) => RWa cI q (a_rest k a))) A) [.ref (q 1), .int (nI k)].toArray s 0 0 A) (F0 m 11 ls []) := by
    intro n9
    induction n9 with
    | zero => intro i hf9 hi H locs ls hP hD hS hl; exact absurd hf9 (Nat.not_lt_zero _)
    | succ n9 ih9 =>
      intro i hf9 hi H locs ls hP hD hS hl
      refine lv_iload hx hb dX1_removeFirst_11 (lv_at hl 4 rfl) ?_
      refine lv_aload_n hx hb dX1_removeFirst_13 rfl (lv_at hl 0 rfl) ?_
      refine va_get (D := D) (ci := 1) (v := .int (nI (a.1 4))) (C := RX1) (T := TX1) (N := 9) hx hb hts hinX1 hown hK hP 0 rfl rfl 2 (by decide) (hts _ (List.mem_of_getElem? (i := 5) rfl)) (fun _ h9 => h9) rfl dX1_removeFirst_14 ?_
      refine k_icmp_ge (tgt := 62) hx hb (by omega) (by omega) dX1_removeFirst_17 (by decide) (fun c_17 => ?_) (fun c_17 => ?_)
      · -- c_17 taken
        refine lv_aload_n hx hb dX1_removeFirst_62 rfl (lv_at hl 0 rfl) ?_
        refine lv_iload_n hx hb dX1_removeFirst_63 rfl (lv_at hl 3 rfl) ?_
        refine va_put (D := D) (ci := 1) (v := .int (nI i)) (ty := .int) (C := RX1) (T := TX1) (N := 9) hx hb hts hinX1 tyX1 tyX1_ok nmX1 hown hK hP hD hS 0 rfl rfl 2 (by decide) (hts _ (List.mem_of_getElem? (i := 5) rfl)) (fun _ h9 => h9) rfl (by decide +kernel) rfl rfl (Nat.le_of_ble_eq_true rfl) dX1_removeFirst_64 (fun H locs hP hD hS => ?_)
        have hP : va_P D vwCl [(q 1, .inr (1, [.ref (q 10), .ref (q 11), .int (nI i), .int (nI (a.1 0)), .int (nI (a.1 1)), .int (nI (a.1 2)), .int (nI (a.1 3)), .int (nI (a.1 5)), .int (nI (a.1 6))])), (q 10, .inl (cI, 32, .inl (shp (a.2 0) k i))), (q 11, .inl (cI, 32, .inl (shp (a.2 1) k i)))] H := hP
        have hD : va_D A [(q 1, .inr (1, [.ref (q 10), .ref (q 11), .int (nI i), .int (nI (a.1 0)), .int (nI (a.1 1)), .int (nI (a.1 2)), .int (nI (a.1 3)), .int (nI (a.1 5)), .int (nI (a.1 6))])), (q 10, .inl (cI, 32, .inl (shp (a.2 0) k i))), (q 11, .inl (cI, 32, .inl (shp (a.2 1) k i)))] := hD
        obtain rfl : i = a.1 4 - k := by omega
        exact k_vret hx hb hr hlk () trivial hP hD hS dX1_removeFirst_67
      · -- c_17 not taken
        refine lv_iload hx hb dX1_removeFirst_20 (lv_at hl 4 rfl) ?_
        refine lv_bipush (v := nI 32) hx hb dX1_removeFirst_22 (by decide) ?_
        refine k_icmp_ge (tgt := 62) hx hb (by omega) (by omega) dX1_removeFirst_24 (by decide) (fun c_24 => absurd c_24 (by omega)) (fun c_24 => ?_)
        refine lv_aload_n hx hb dX1_removeFirst_27 rfl (lv_at hl 0 rfl) ?_
        refine va_get (D := D) (ci := 1) (v := .ref (q 10)) (C := RX1) (T := TX1) (N := 9) hx hb hts hinX1 hown hK hP 0 rfl rfl 0 (by decide) (hts _ (List.mem_of_getElem? (i := 6) rfl)) (fun _ h9 => h9) rfl dX1_removeFirst_28 ?_
        refine lv_iload_n hx hb dX1_removeFirst_31 rfl (lv_at hl 3 rfl) ?_
        refine lv_aload_n hx hb dX1_removeFirst_32 rfl (lv_at hl 0 rfl) ?_
        refine va_get (D := D) (ci := 1) (v := .ref (q 10)) (C := RX1) (T := TX1) (N := 9) hx hb hts hinX1 hown hK hP 0 rfl rfl 0 (by decide) (hts _ (List.mem_of_getElem? (i := 6) rfl)) (fun _ h9 => h9) rfl dX1_removeFirst_33 ?_
        refine lv_iload hx hb dX1_removeFirst_36 (lv_at hl 4 rfl) ?_
        refine k_iald hx hb hK hP 1 0 rfl rfl (by omega) (Nat.le_of_ble_eq_true rfl) dX1_removeFirst_38 ?_
        refine k_iast hx hb hK hP hD hS 1 0 rfl rfl (by omega) (Nat.le_of_ble_eq_true rfl) dX1_removeFirst_39 (fun H locs hP hD hS => ?_)
        have hP : va_P D vwCl [(q 1, .inr (1, [.ref (q 10), .ref (q 11), .int (nI (a.1 4)), .int (nI (a.1 0)), .int (nI (a.1 1)), .int (nI (a.1 2)), .int (nI (a.1 3)), .int (nI (a.1 5)), .int (nI (a.1 6))])), (q 10, .inl (cI, 32, .inl (upd (shp (a.2 0) k i) i (((shp (a.2 0) k i) (k + i)))))), (q 11, .inl (cI, 32, .inl (shp (a.2 1) k i)))] H := hP
        have hD : va_D A [(q 1, .inr (1, [.ref (q 10), .ref (q 11), .int (nI (a.1 4)), .int (nI (a.1 0)), .int (nI (a.1 1)), .int (nI (a.1 2)), .int (nI (a.1 3)), .int (nI (a.1 5)), .int (nI (a.1 6))])), (q 10, .inl (cI, 32, .inl (upd (shp (a.2 0) k i) i (((shp (a.2 0) k i) (k + i)))))), (q 11, .inl (cI, 32, .inl (shp (a.2 1) k i)))] := hD
        refine lv_aload_n hx hb dX1_removeFirst_40 rfl (lv_at hl 0 rfl) ?_
        refine va_get (D := D) (ci := 1) (v := .ref (q 11)) (C := RX1) (T := TX1) (N := 9) hx hb hts hinX1 hown hK hP 0 rfl rfl 1 (by decide) (hts _ (List.mem_of_getElem? (i := 7) rfl)) (fun _ h9 => h9) rfl dX1_removeFirst_41 ?_
        refine lv_iload_n hx hb dX1_removeFirst_44 rfl (lv_at hl 3 rfl) ?_
        refine lv_aload_n hx hb dX1_removeFirst_45 rfl (lv_at hl 0 rfl) ?_
        refine va_get (D := D) (ci := 1) (v := .ref (q 11)) (C := RX1) (T := TX1) (N := 9) hx hb hts hinX1 hown hK hP 0 rfl rfl 1 (by decide) (hts _ (List.mem_of_getElem? (i := 7) rfl)) (fun _ h9 => h9) rfl dX1_removeFirst_46 ?_
        refine lv_iload hx hb dX1_removeFirst_49 (lv_at hl 4 rfl) ?_
        refine k_iald hx hb hK hP 2 0 rfl rfl (by omega) (Nat.le_of_ble_eq_true rfl) dX1_removeFirst_51 ?_
        refine k_iast hx hb hK hP hD hS 2 0 rfl rfl (by omega) (Nat.le_of_ble_eq_true rfl) dX1_removeFirst_52 (fun H locs hP hD hS => ?_)
        have hP : va_P D vwCl [(q 1, .inr (1, [.ref (q 10), .ref (q 11), .int (nI (a.1 4)), .int (nI (a.1 0)), .int (nI (a.1 1)), .int (nI (a.1 2)), .int (nI (a.1 3)), .int (nI (a.1 5)), .int (nI (a.1 6))])), (q 10, .inl (cI, 32, .inl (upd (shp (a.2 0) k i) i (((shp (a.2 0) k i) (k + i)))))), (q 11, .inl (cI, 32, .inl (upd (shp (a.2 1) k i) i (((shp (a.2 1) k i) (k + i))))))] H := hP
        have hD : va_D A [(q 1, .inr (1, [.ref (q 10), .ref (q 11), .int (nI (a.1 4)), .int (nI (a.1 0)), .int (nI (a.1 1)), .int (nI (a.1 2)), .int (nI (a.1 3)), .int (nI (a.1 5)), .int (nI (a.1 6))])), (q 10, .inl (cI, 32, .inl (upd (shp (a.2 0) k i) i (((shp (a.2 0) k i) (k + i)))))), (q 11, .inl (cI, 32, .inl (upd (shp (a.2 1) k i) i (((shp (a.2 1) k i) (k + i))))))] := hD
        refine lv_iinc (v := nI (i + 1)) (lv' := [(3, .int (nI (i + 1))), (0, .ref (q 1)), (1, .int (nI k)), (2, .int (nI k)), (4, .int (nI (k + i)))]) hx hb dX1_removeFirst_53 hl (k := 3) rfl (nI_add i 1) (by decide) rfl (fun ls hl => ?_)
        refine lv_iinc (v := nI (k + i + 1)) (lv' := [(4, .int (nI (k + i + 1))), (3, .int (nI (i + 1))), (0, .ref (q 1)), (1, .int (nI k)), (2, .int (nI k))]) hx hb dX1_removeFirst_56 hl (k := 4) rfl (nI_add (k + i) 1) (by decide) rfl (fun ls hl => ?_)
        refine lv_goto (tgt := 11) hx hb dX1_removeFirst_59 (by decide) ?_
        exact ih9 (i + 1) (by omega) (by omega) H locs ls (by rw [← shp_step, ← shp_step]; exact hP) (by rw [← shp_step, ← shp_step]; exact hD) hS (lv_sub hl [2, 3, 4, 1, 0] rfl)
  refine lv_iconst (v := nI 0) hx hb dX1_removeFirst_0 (by decide) ?_
  refine lv_iload_n hx hb dX1_removeFirst_1 rfl (lv_at hl 1 rfl) ?_
  refine va_mmax hx hb (hml.trans hl.1.symm) hown (hts _ (List.mem_of_getElem? (i := 1) rfl)) (hts _ (List.mem_of_getElem? (i := 2) rfl)) (hts _ (List.mem_of_getElem? (i := 3) rfl)) (hts _ (List.mem_of_getElem? (i := 4) rfl)) (Nat.le_of_ble_eq_true rfl) (Nat.le_of_ble_eq_true rfl) (Nat.zero_le _) (Nat.zero_le _) dX1_removeFirst_2 ?_
  rw [show (if nI 0 < nI k then nI k else nI 0) = nI k from (by rw [k_max (by omega) (by omega), Nat.zero_max])]
  refine lv_istore_n (lv' := [(2, .int (nI k)), (0, .ref (q 1)), (1, .int (nI k))]) hx hb dX1_removeFirst_5 rfl hl (by decide) rfl (fun ls hl => ?_)
  refine lv_iconst (v := nI 0) hx hb dX1_removeFirst_6 (by decide) ?_
  refine lv_istore_n (lv' := [(3, .int (nI 0)), (2, .int (nI k)), (0, .ref (q 1)), (1, .int (nI k))]) hx hb dX1_removeFirst_7 rfl hl (by decide) rfl (fun ls hl => ?_)
  refine lv_iload_n hx hb dX1_removeFirst_8 rfl (lv_at hl 1 rfl) ?_
  refine lv_istore (lv' := [(4, .int (nI k)), (3, .int (nI 0)), (2, .int (nI k)), (0, .ref (q 1)), (1, .int (nI k))]) hx hb dX1_removeFirst_9 hl (by decide) rfl (fun ls hl => ?_)
  exact at11 _ 0 (Nat.lt_succ_self _) (Nat.zero_le _) H locs ls (by rw [shp_0, shp_0]; exact hP) (by rw [shp_0, shp_0]; exact hD) hS (lv_sub hl [3, 4, 2, 1, 0] rfl)
