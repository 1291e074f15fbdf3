/-! the store -/
set_option maxHeartbeats 4000000 in
set_option maxRecDepth 100000 in
theorem c_X2_add (l : Launch) (D : va_G) (cI cZ : ClassId) (q : Nat → Nat) (a : AS) (i14 : a.1 14 ≤ 300) (k : Nat) (hk : k < 300) : kMv l yX2_add wsX2_add 1 24 D (TY cI cZ) [.ref (q 2), .int (nI k)] [(q 2, .inr (2, [.ref (q 20), .ref (q 21), .int (nI (a.1 8)), .int (nI (a.1 14) - 1), .int (nI (a.1 13))])), (q 20, .inl (cZ, 300, .inl (a.2 2))), (q 21, .inl (cI, 300, .inl (a.2 4)))] (fun (_ : Unit) => True) (fun (_ : Unit) => SWa cI cZ q (sN (sA a 2 (upd (a.2 2) k (nI 1))) 14 (max (a.1 14) (k + 1)))) := by
  intro sz
  refine k_in (Qc := fun A => va_Qv (fun (_ : Unit) => True) (kB D A (fun (_ : Unit) => SWa cI cZ q (sN (sA a 2 (upd (a.2 2) k (nI 1))) 14 (max (a.1 14) (k + 1))))) A) (cc := cX2_add) (maxL := 2) (ret := none) (by decide) rfl (Nat.le_of_ble_eq_true rfl) ?_
  intro p e s m below meth c A ls hfix hr hlk hN hP hK hD hA hS hl
  have hfix : CallFix p m c cX2_add 2 s [.ref (q 2), .int (nI k)].toArray wsX2_add RX2 := hfix
  have hl : lv_has ls 2 [(0, .ref (q 2)), (1, .int (nI k))] := hl
  obtain ⟨hx, hb, hml, hown, hts⟩ := id hfix
  have hinX2 : ∀ w ∈ wsX20, w ∈ wsX2_add := fun _ h => List.mem_cons_of_mem _ (List.mem_append_right _ h)
  have hP : va_P D vwCl [(q 2, .inr (2, [.ref (q 20), .ref (q 21), .int (nI (a.1 8)), .int (nI (a.1 14) - 1), .int (nI (a.1 13))])), (q 20, .inl (cZ, 300, .inl (a.2 2))), (q 21, .inl (cI, 300, .inl (a.2 4)))] s.heap := hP
  have hD : va_D A [(q 2, .inr (2, [.ref (q 20), .ref (q 21), .int (nI (a.1 8)), .int (nI (a.1 14) - 1), .int (nI (a.1 13))])), (q 20, .inl (cZ, 300, .inl (a.2 2))), (q 21, .inl (cI, 300, .inl (a.2 4)))] := hD
  have hS : ∃ (H : Heap) (locs : List Loc), H = s.heap ∧ locs = [] ∧ va_S A s.heap H locs := ⟨_, _, rfl, rfl, hS⟩
  obtain ⟨H, locs, hH, hlocs, hS⟩ := hS
  rw [← hH] at hP
  suffices hW9 : W p l e ({ frames := 1, cells := 0, slots := 0, locals := 24 } : Room) s m [.ref (q 2), .int (nI k)].toArray below meth c H locs 0 0 (MQ below (va_Qv (fun (_ : Unit) => True) (kB D A (fun (_ : Unit) => SWa cI cZ q (sN (sA a 2 (upd (a.2 2) k (nI 1))) 14 (max (a.1 14) (k + 1))))) A) [.ref (q 2), .int (nI k)].toArray s 0 0 A) (F0 m 0 ls []) by rw [hH, hlocs] at hW9; exact hW9
  clear hH hlocs
  refine lv_iload_n hx hb dX2_add_0 rfl (lv_at hl 1 rfl) ?_
  refine k_callNi (n := 1) (As := [.int (nI k)]) (rest := []) hfix hN hK hP hD hS hA hl.1 (c_X3_isPacket l D cI cZ (nI k)) (fun _ => rfl) gX2_add_X3_isPacket_n29 rfl hN.m29 (hts _ (List.mem_of_getElem? (i := 8) rfl)) (hts _ (List.mem_of_getElem? (i := 7) rfl)) (by decide +kernel) rfl ⟨Nat.le_of_ble_eq_true rfl, Nat.le_of_ble_eq_true rfl⟩ [0, 1, 2] rfl (by decide) rfl (Nat.le_of_ble_eq_true rfl) ⟨Nat.zero_le _, Nat.zero_le _⟩ dX2_add_1 (fun r_1 u H locs hw_1 hP hD hS => ?_)
  have e_1 : (inR (nI k) 300) := (nI_inR (by decide) hk)
  rw [if_pos e_1] at hw_1
  obtain rfl : r_1 = nI 1 := hw_1
  refine k_if_eq (tgt := 26) hx hb (by decide) dX2_add_4 (by decide) (fun q => absurd q (by decide)) (fun _ => ?_)
  refine lv_aload_n hx hb dX2_add_7 rfl (lv_at hl 0 rfl) ?_
  refine va_get (D := D) (ci := 2) (v := .ref (q 20)) (C := RX2) (T := TX2) (N := 5) hx hb hts hinX2 hown hK hP 0 rfl rfl 0 (by decide) (hts _ (List.mem_of_getElem? (i := 1) rfl)) (fun _ h9 => h9) rfl dX2_add_8 ?_
  refine lv_iload_n hx hb dX2_add_11 rfl (lv_at hl 1 rfl) ?_
  refine lv_iconst (v := nI 1) hx hb dX2_add_12 (by decide) ?_
  refine k_zast hx hb hK hP hD hS 1 1 rfl rfl (by omega) (Nat.le_of_ble_eq_true rfl) (by decide) dX2_add_13 (fun H locs hP hD hS => ?_)
  have hP : va_P D vwCl [(q 2, .inr (2, [.ref (q 20), .ref (q 21), .int (nI (a.1 8)), .int (nI (a.1 14) - 1), .int (nI (a.1 13))])), (q 20, .inl (cZ, 300, .inl (upd (a.2 2) k (nI 1)))), (q 21, .inl (cI, 300, .inl (a.2 4)))] H := hP
  have hD : va_D A [(q 2, .inr (2, [.ref (q 20), .ref (q 21), .int (nI (a.1 8)), .int (nI (a.1 14) - 1), .int (nI (a.1 13))])), (q 20, .inl (cZ, 300, .inl (upd (a.2 2) k (nI 1)))), (q 21, .inl (cI, 300, .inl (a.2 4)))] := hD
  refine lv_aload_n hx hb dX2_add_14 rfl (lv_at hl 0 rfl) ?_
  refine lv_aload_n hx hb dX2_add_15 rfl (lv_at hl 0 rfl) ?_
  refine va_get (D := D) (ci := 2) (v := .int (nI (a.1 14) - 1)) (C := RX2) (T := TX2) (N := 5) hx hb hts hinX2 hown hK hP 0 rfl rfl 3 (by decide) (hts _ (List.mem_of_getElem? (i := 2) rfl)) (fun _ h9 => h9) rfl dX2_add_16 ?_
  refine lv_iload_n hx hb dX2_add_19 rfl (lv_at hl 1 rfl) ?_
  refine va_mmax hx hb (hml.trans hl.1.symm) hown (hts _ (List.mem_of_getElem? (i := 3) rfl)) (hts _ (List.mem_of_getElem? (i := 4) rfl)) (hts _ (List.mem_of_getElem? (i := 5) rfl)) (hts _ (List.mem_of_getElem? (i := 6) rfl)) (Nat.le_of_ble_eq_true rfl) (Nat.le_of_ble_eq_true rfl) (Nat.zero_le _) (Nat.zero_le _) dX2_add_20 ?_
  rw [show (if (nI (a.1 14) - 1) < nI k then nI k else (nI (a.1 14) - 1)) = (nI (max (a.1 14) (k + 1)) - 1) from k_maxh i14 hk]
  refine va_put (D := D) (ci := 2) (v := .int (nI (max (a.1 14) (k + 1)) - 1)) (ty := .int) (C := RX2) (T := TX2) (N := 5) hx hb hts hinX2 tyX2 tyX2_ok nmX2 hown hK hP hD hS 0 rfl rfl 3 (by decide) (hts _ (List.mem_of_getElem? (i := 2) rfl)) (fun _ h9 => h9) rfl (by decide +kernel) rfl rfl (Nat.le_of_ble_eq_true rfl) dX2_add_23 (fun H locs hP hD hS => ?_)
  have hP : va_P D vwCl [(q 2, .inr (2, [.ref (q 20), .ref (q 21), .int (nI (a.1 8)), .int (nI (max (a.1 14) (k + 1)) - 1), .int (nI (a.1 13))])), (q 20, .inl (cZ, 300, .inl (upd (a.2 2) k (nI 1)))), (q 21, .inl (cI, 300, .inl (a.2 4)))] H := hP
  have hD : va_D A [(q 2, .inr (2, [.ref (q 20), .ref (q 21), .int (nI (a.1 8)), .int (nI (max (a.1 14) (k + 1)) - 1), .int (nI (a.1 13))])), (q 20, .inl (cZ, 300, .inl (upd (a.2 2) k (nI 1)))), (q 21, .inl (cI, 300, .inl (a.2 4)))] := hD
  exact k_vret hx hb hr hlk () trivial hP hD hS dX2_add_26
set_option maxHeartbeats 4000000 in
set_option maxRecDepth 100000 in
theorem c_X2_holds (l : Launch) (D : va_G) (cI cZ : ClassId) (q : Nat → Nat) (a : AS) (k : Nat) (hk : k < 300) : kMi l yX2_holds wsX2_holds 1 20 D (TY cI cZ) [.ref (q 2), .int (nI k)] [(q 2, .inr (2, [.ref (q 20), .ref (q 21), .int (nI (a.1 8)), .int (nI (a.1 14) - 1), .int (nI (a.1 13))])), (q 20, .inl (cZ, 300, .inl (a.2 2))), (q 21, .inl (cI, 300, .inl (a.2 4)))] (fun (r : Int32) (_ : Unit) => r = (if a.2 2 k = 0 then nI 0 else nI 1)) (fun (_ : Unit) => SWa cI cZ q a) := by
  intro sz
  refine k_in (Qc := fun A => va_Qi (fun (r : Int32) (_ : Unit) => r = (if a.2 2 k = 0 then nI 0 else nI 1)) (kB D A (fun (_ : Unit) => SWa cI cZ q a)) A) (cc := cX2_holds) (maxL := 2) (ret := (some .boolean)) (by decide) rfl (Nat.le_of_ble_eq_true rfl) ?_
  intro p e s m below meth c A ls hfix hr hlk hN hP hK hD hA hS hl
  have hfix : CallFix p m c cX2_holds 2 s [.ref (q 2), .int (nI k)].toArray wsX2_holds RX2 := hfix
  have hl : lv_has ls 2 [(0, .ref (q 2)), (1, .int (nI k))] := hl
  obtain ⟨hx, hb, hml, hown, hts⟩ := id hfix
  have hinX2 : ∀ w ∈ wsX20, w ∈ wsX2_holds := fun _ h => List.mem_cons_of_mem _ (List.mem_append_right _ h)
  have hP : va_P D vwCl [(q 2, .inr (2, [.ref (q 20), .ref (q 21), .int (nI (a.1 8)), .int (nI (a.1 14) - 1), .int (nI (a.1 13))])), (q 20, .inl (cZ, 300, .inl (a.2 2))), (q 21, .inl (cI, 300, .inl (a.2 4)))] s.heap := hP
  have hD : va_D A [(q 2, .inr (2, [.ref (q 20), .ref (q 21), .int (nI (a.1 8)), .int (nI (a.1 14) - 1), .int (nI (a.1 13))])), (q 20, .inl (cZ, 300, .inl (a.2 2))), (q 21, .inl (cI, 300, .inl (a.2 4)))] := hD
  have hS : ∃ (H : Heap) (locs : List Loc), H = s.heap ∧ locs = [] ∧ va_S A s.heap H locs := ⟨_, _, rfl, rfl, hS⟩
  obtain ⟨H, locs, hH, hlocs, hS⟩ := hS
  rw [← hH] at hP
  suffices hW9 : W p l e ({ frames := 1, cells := 0, slots := 0, locals := 20 } : Room) s m [.ref (q 2), .int (nI k)].toArray below meth c H locs 0 0 (MQ below (va_Qi (fun (r : Int32) (_ : Unit) => r = (if a.2 2 k = 0 then nI 0 else nI 1)) (kB D A (fun (_ : Unit) => SWa cI cZ q a)) A) [.ref (q 2), .int (nI k)].toArray s 0 0 A) (F0 m 0 ls []) by rw [hH, hlocs] at hW9; exact hW9
  clear hH hlocs
  refine lv_iload_n hx hb dX2_holds_0 rfl (lv_at hl 1 rfl) ?_
  refine k_callNi (n := 1) (As := [.int (nI k)]) (rest := []) hfix hN hK hP hD hS hA hl.1 (c_X3_isPacket l D cI cZ (nI k)) (fun _ => rfl) gX2_holds_X3_isPacket_n29 rfl hN.m29 (hts _ (List.mem_of_getElem? (i := 3) rfl)) (hts _ (List.mem_of_getElem? (i := 2) rfl)) (by decide +kernel) rfl ⟨Nat.le_of_ble_eq_true rfl, Nat.le_of_ble_eq_true rfl⟩ [0, 1, 2] rfl (by decide) rfl (Nat.le_of_ble_eq_true rfl) ⟨Nat.zero_le _, Nat.zero_le _⟩ dX2_holds_1 (fun r_1 u H locs hw_1 hP hD hS => ?_)
  have e_1 : (inR (nI k) 300) := (nI_inR (by decide) hk)
  rw [if_pos e_1] at hw_1
  obtain rfl : r_1 = nI 1 := hw_1
  refine k_if_eq (tgt := 20) hx hb (by decide) dX2_holds_4 (by decide) (fun q => absurd q (by decide)) (fun _ => ?_)
  refine lv_aload_n hx hb dX2_holds_7 rfl (lv_at hl 0 rfl) ?_
  refine va_get (D := D) (ci := 2) (v := .ref (q 20)) (C := RX2) (T := TX2) (N := 5) hx hb hts hinX2 hown hK hP 0 rfl rfl 0 (by decide) (hts _ (List.mem_of_getElem? (i := 1) rfl)) (fun _ h9 => h9) rfl dX2_holds_8 ?_
  refine lv_iload_n hx hb dX2_holds_11 rfl (lv_at hl 1 rfl) ?_
  refine k_zald hx hb hK hP 1 1 rfl rfl (by omega) (Nat.le_of_ble_eq_true rfl) dX2_holds_12 ?_
  refine lv_if_eq (tgt := 20) hx hb dX2_holds_13 (by decide) (fun c_13 => ?_) (fun c_13 => ?_)
  · -- c_13 taken
    refine lv_iconst (v := nI 0) hx hb dX2_holds_20 (by decide) ?_
    exact k_iret (v := nI 0) hx hb hr hlk (by decide) () ((if_pos c_13).symm) hP hD hS dX2_holds_21
  · -- c_13 not taken
    refine lv_iconst (v := nI 1) hx hb dX2_holds_16 (by decide) ?_
    refine lv_goto (tgt := 21) hx hb dX2_holds_17 (by decide) ?_
    exact k_iret (v := nI 1) hx hb hr hlk (by decide) () ((if_neg c_13).symm) hP hD hS dX2_holds_21
set_option maxHeartbeats 4000000 in
set_option maxRecDepth 100000 in
theorem c_X2_holdsFrame (l : Launch) (D : va_G) (cI cZ : ClassId) (q : Nat → Nat) (a : AS) (f : Nat) (hf : f < 100) : kMi l yX2_holdsFrame wsX2_holdsFrame 0 0 D (TY cI cZ) [.ref (q 2), .int (nI f)] [(q 2, .inr (2, [.ref (q 20), .ref (q 21), .int (nI (a.1 8)), .int (nI (a.1 14) - 1), .int (nI (a.1 13))])), (q 20, .inl (cZ, 300, .inl (a.2 2))), (q 21, .inl (cI, 300, .inl (a.2 4)))] (fun (r : Int32) (_ : Unit) => r = (if whl (a.2 2) f then nI 1 else nI 0)) (fun (_ : Unit) => SWa cI cZ q a) := by
  have e3 : f * 3 = 3 * f := Nat.mul_comm _ _
  intro sz
  refine k_in (Qc := fun A => va_Qi (fun (r : Int32) (_ : Unit) => r = (if whl (a.2 2) f then nI 1 else nI 0)) (kB D A (fun (_ : Unit) => SWa cI cZ q a)) A) (cc := cX2_holdsFrame) (maxL := 3) (ret := (some .boolean)) (by decide) rfl (Nat.le_of_ble_eq_true rfl) ?_
  intro p e s m below meth c A ls hfix hr hlk hN hP hK hD hA hS hl
  have hfix : CallFix p m c cX2_holdsFrame 3 s [.ref (q 2), .int (nI f)].toArray wsX2_holdsFrame RX2 := hfix
  have hl : lv_has ls 3 [(0, .ref (q 2)), (1, .int (nI f))] := hl
  obtain ⟨hx, hb, hml, hown, hts⟩ := id hfix
  have hinX2 : ∀ w ∈ wsX20, w ∈ wsX2_holdsFrame := fun _ h => List.mem_cons_of_mem _ (List.mem_append_right _ h)
  have hP : va_P D vwCl [(q 2, .inr (2, [.ref (q 20), .ref (q 21), .int (nI (a.1 8)), .int (nI (a.1 14) - 1), .int (nI (a.1 13))])), (q 20, .inl (cZ, 300, .inl (a.2 2))), (q 21, .inl (cI, 300, .inl (a.2 4)))] s.heap := hP
  have hD : va_D A [(q 2, .inr (2, [.ref (q 20), .ref (q 21), .int (nI (a.1 8)), .int (nI (a.1 14) - 1), .int (nI (a.1 13))])), (q 20, .inl (cZ, 300, .inl (a.2 2))), (q 21, .inl (cI, 300, .inl (a.2 4)))] := hD
  have hS : ∃ (H : Heap) (locs : List Loc), H = s.heap ∧ locs = [] ∧ va_S A s.heap H locs := ⟨_, _, rfl, rfl, hS⟩
  obtain ⟨H, locs, hH, hlocs, hS⟩ := hS
  rw [← hH] at hP
  suffices hW9 : W p l e ({ frames := 0, cells := 0, slots := 0, locals := 0 } : Room) s m [.ref (q 2), .int (nI f)].toArray below meth c H locs 0 0 (MQ below (va_Qi (fun (r : Int32) (_ : Unit) => r = (if whl (a.2 2) f then nI 1 else nI 0)) (kB D A (fun (_ : Unit) => SWa cI cZ q a)) A) [.ref (q 2), .int (nI f)].toArray s 0 0 A) (F0 m 0 ls []) by rw [hH, hlocs] at hW9; exact hW9
  clear hH hlocs
  refine lv_iload_n hx hb dX2_holdsFrame_0 rfl (lv_at hl 1 rfl) ?_
  refine lv_iconst (v := nI 3) hx hb dX2_holdsFrame_1 (by decide) ?_
  refine k_imul hx hb dX2_holdsFrame_2 ?_
  refine lv_istore_n (lv' := [(2, .int (nI (f * 3))), (0, .ref (q 2)), (1, .int (nI f))]) hx hb dX2_holdsFrame_3 rfl hl (by decide) rfl (fun ls hl => ?_)
  refine lv_iload_n hx hb dX2_holdsFrame_4 rfl (lv_at hl 2 rfl) ?_
  refine k_if_lt (tgt := 49) hx hb (by omega) dX2_holdsFrame_5 (by decide) ?_
  refine lv_iload_n hx hb dX2_holdsFrame_8 rfl (lv_at hl 2 rfl) ?_
  refine lv_bipush (v := nI 100) hx hb dX2_holdsFrame_9 (by decide) ?_
  refine k_icmp_ge (tgt := 49) hx hb (by omega) (by omega) dX2_holdsFrame_11 (by decide) (fun c_11 => absurd c_11 (by omega)) (fun c_11 => ?_)
  refine lv_aload_n hx hb dX2_holdsFrame_14 rfl (lv_at hl 1 rfl) ?_
  refine va_get (D := D) (ci := 2) (v := .ref (q 20)) (C := RX2) (T := TX2) (N := 5) hx hb hts hinX2 hown hK hP 0 rfl rfl 0 (by decide) (hts _ (List.mem_of_getElem? (i := 1) rfl)) (fun _ h9 => h9) rfl dX2_holdsFrame_15 ?_
  refine lv_iload_n hx hb dX2_holdsFrame_18 rfl (lv_at hl 0 rfl) ?_
  refine k_zald hx hb hK hP 1 1 rfl rfl (by omega) (Nat.le_of_ble_eq_true rfl) dX2_holdsFrame_19 ?_
  refine lv_if_eq (tgt := 49) hx hb dX2_holdsFrame_20 (by decide) (fun c_20 => ?_) (fun c_20 => ?_)
  · -- c_20 taken
    refine lv_iconst (v := nI 0) hx hb dX2_holdsFrame_49 (by decide) ?_
    exact k_iret (v := nI 0) hx hb hr hlk (by decide) () ((if_neg (fun h => h.1 (by rw [← e3]; exact c_20))).symm) hP hD hS dX2_holdsFrame_50
  · -- c_20 not taken
    refine lv_aload_n hx hb dX2_holdsFrame_23 rfl (lv_at hl 1 rfl) ?_
    refine va_get (D := D) (ci := 2) (v := .ref (q 20)) (C := RX2) (T := TX2) (N := 5) hx hb hts hinX2 hown hK hP 0 rfl rfl 0 (by decide) (hts _ (List.mem_of_getElem? (i := 1) rfl)) (fun _ h9 => h9) rfl dX2_holdsFrame_24 ?_
    refine lv_iload_n hx hb dX2_holdsFrame_27 rfl (lv_at hl 0 rfl) ?_
    refine lv_iconst (v := nI 1) hx hb dX2_holdsFrame_28 (by decide) ?_
    refine k_iadd hx hb dX2_holdsFrame_29 ?_
    refine k_zald hx hb hK hP 1 1 rfl rfl (by omega) (Nat.le_of_ble_eq_true rfl) dX2_holdsFrame_30 ?_
    refine lv_if_eq (tgt := 49) hx hb dX2_holdsFrame_31 (by decide) (fun c_31 => ?_) (fun c_31 => ?_)
    · -- c_31 taken
      refine lv_iconst (v := nI 0) hx hb dX2_holdsFrame_49 (by decide) ?_
      exact k_iret (v := nI 0) hx hb hr hlk (by decide) () ((if_neg (fun h => h.2.1 (by rw [← e3]; exact c_31))).symm) hP hD hS dX2_holdsFrame_50
    · -- c_31 not taken
      refine lv_aload_n hx hb dX2_holdsFrame_34 rfl (lv_at hl 1 rfl) ?_
      refine va_get (D := D) (ci := 2) (v := .ref (q 20)) (C := RX2) (T := TX2) (N := 5) hx hb hts hinX2 hown hK hP 0 rfl rfl 0 (by decide) (hts _ (List.mem_of_getElem? (i := 1) rfl)) (fun _ h9 => h9) rfl dX2_holdsFrame_35 ?_
      refine lv_iload_n hx hb dX2_holdsFrame_38 rfl (lv_at hl 0 rfl) ?_
      refine lv_iconst (v := nI 2) hx hb dX2_holdsFrame_39 (by decide) ?_
      refine k_iadd hx hb dX2_holdsFrame_40 ?_
      refine k_zald hx hb hK hP 1 1 rfl rfl (by omega) (Nat.le_of_ble_eq_true rfl) dX2_holdsFrame_41 ?_
      refine lv_if_eq (tgt := 49) hx hb dX2_holdsFrame_42 (by decide) (fun c_42 => ?_) (fun c_42 => ?_)
      · -- c_42 taken
        refine lv_iconst (v := nI 0) hx hb dX2_holdsFrame_49 (by decide) ?_
        exact k_iret (v := nI 0) hx hb hr hlk (by decide) () ((if_neg (fun h => h.2.2 (by rw [← e3]; exact c_42))).symm) hP hD hS dX2_holdsFrame_50
      · -- c_42 not taken
        refine lv_iconst (v := nI 1) hx hb dX2_holdsFrame_45 (by decide) ?_
        refine lv_goto (tgt := 50) hx hb dX2_holdsFrame_46 (by decide) ?_
        exact k_iret (v := nI 1) hx hb hr hlk (by decide) () ((if_pos ⟨by rw [← e3]; exact c_20, by rw [← e3]; exact c_31, by rw [← e3]; exact c_42⟩).symm) hP hD hS dX2_holdsFrame_50
set_option maxHeartbeats 4000000 in
set_option maxRecDepth 100000 in
theorem c_X2_ask (l : Launch) (D : va_G) (cI cZ : ClassId) (q : Nat → Nat) (a : AS) (p9 : Nat) (hp : a.1 8 < 300) : kMv l yX2_ask wsX2_ask 0 0 D (TY cI cZ) [.ref (q 2), .int (nI p9)] [(q 2, .inr (2, [.ref (q 20), .ref (q 21), .int (nI (a.1 8)), .int (nI (a.1 14) - 1), .int (nI (a.1 13))])), (q 20, .inl (cZ, 300, .inl (a.2 2))), (q 21, .inl (cI, 300, .inl (a.2 4)))] (fun (_ : Unit) => True) (fun (_ : Unit) => SWa cI cZ q (sN (sA a 4 (upd (a.2 4) (a.1 8) (nI p9))) 8 (a.1 8 + 1))) := by
  intro sz
  refine k_in (Qc := fun A => va_Qv (fun (_ : Unit) => True) (kB D A (fun (_ : Unit) => SWa cI cZ q (sN (sA a 4 (upd (a.2 4) (a.1 8) (nI p9))) 8 (a.1 8 + 1)))) A) (cc := cX2_ask) (maxL := 2) (ret := none) (by decide) rfl (Nat.le_of_ble_eq_true rfl) ?_
  intro p e s m below meth c A ls hfix hr hlk hN hP hK hD hA hS hl
  have hfix : CallFix p m c cX2_ask 2 s [.ref (q 2), .int (nI p9)].toArray wsX2_ask RX2 := hfix
  have hl : lv_has ls 2 [(0, .ref (q 2)), (1, .int (nI p9))] := hl
  obtain ⟨hx, hb, hml, hown, hts⟩ := id hfix
  have hinX2 : ∀ w ∈ wsX20, w ∈ wsX2_ask := fun _ h => List.mem_cons_of_mem _ (List.mem_append_right _ h)
  have hP : va_P D vwCl [(q 2, .inr (2, [.ref (q 20), .ref (q 21), .int (nI (a.1 8)), .int (nI (a.1 14) - 1), .int (nI (a.1 13))])), (q 20, .inl (cZ, 300, .inl (a.2 2))), (q 21, .inl (cI, 300, .inl (a.2 4)))] s.heap := hP
  have hD : va_D A [(q 2, .inr (2, [.ref (q 20), .ref (q 21), .int (nI (a.1 8)), .int (nI (a.1 14) - 1), .int (nI (a.1 13))])), (q 20, .inl (cZ, 300, .inl (a.2 2))), (q 21, .inl (cI, 300, .inl (a.2 4)))] := hD
  have hS : ∃ (H : Heap) (locs : List Loc), H = s.heap ∧ locs = [] ∧ va_S A s.heap H locs := ⟨_, _, rfl, rfl, hS⟩
  obtain ⟨H, locs, hH, hlocs, hS⟩ := hS
  rw [← hH] at hP
  suffices hW9 : W p l e ({ frames := 0, cells := 0, slots := 0, locals := 0 } : Room) s m [.ref (q 2), .int (nI p9)].toArray below meth c H locs 0 0 (MQ below (va_Qv (fun (_ : Unit) => True) (kB D A (fun (_ : Unit) => SWa cI cZ q (sN (sA a 4 (upd (a.2 4) (a.1 8) (nI p9))) 8 (a.1 8 + 1)))) A) [.ref (q 2), .int (nI p9)].toArray s 0 0 A) (F0 m 0 ls []) by rw [hH, hlocs] at hW9; exact hW9
  clear hH hlocs
  refine lv_aload_n hx hb dX2_ask_0 rfl (lv_at hl 0 rfl) ?_
  refine va_get (D := D) (ci := 2) (v := .int (nI (a.1 8))) (C := RX2) (T := TX2) (N := 5) hx hb hts hinX2 hown hK hP 0 rfl rfl 2 (by decide) (hts _ (List.mem_of_getElem? (i := 1) rfl)) (fun _ h9 => h9) rfl dX2_ask_1 ?_
  refine lv_sipush (v := nI 300) hx hb dX2_ask_4 (by decide) ?_
  refine k_icmp_ge (tgt := 30) hx hb (by omega) (by omega) dX2_ask_7 (by decide) (fun c_7 => absurd c_7 (by omega)) (fun c_7 => ?_)
  refine lv_aload_n hx hb dX2_ask_10 rfl (lv_at hl 0 rfl) ?_
  refine va_get (D := D) (ci := 2) (v := .ref (q 21)) (C := RX2) (T := TX2) (N := 5) hx hb hts hinX2 hown hK hP 0 rfl rfl 1 (by decide) (hts _ (List.mem_of_getElem? (i := 2) rfl)) (fun _ h9 => h9) rfl dX2_ask_11 ?_
  refine lv_aload_n hx hb dX2_ask_14 rfl (lv_at hl 0 rfl) ?_
  refine va_get (D := D) (ci := 2) (v := .int (nI (a.1 8))) (C := RX2) (T := TX2) (N := 5) hx hb hts hinX2 hown hK hP 0 rfl rfl 2 (by decide) (hts _ (List.mem_of_getElem? (i := 1) rfl)) (fun _ h9 => h9) rfl dX2_ask_15 ?_
  refine lv_iload_n hx hb dX2_ask_18 rfl (lv_at hl 1 rfl) ?_
  refine k_iast hx hb hK hP hD hS 2 0 rfl rfl (by omega) (Nat.le_of_ble_eq_true rfl) dX2_ask_19 (fun H locs hP hD hS => ?_)
  have hP : va_P D vwCl [(q 2, .inr (2, [.ref (q 20), .ref (q 21), .int (nI (a.1 8)), .int (nI (a.1 14) - 1), .int (nI (a.1 13))])), (q 20, .inl (cZ, 300, .inl (a.2 2))), (q 21, .inl (cI, 300, .inl (upd (a.2 4) (a.1 8) (nI p9))))] H := hP
  have hD : va_D A [(q 2, .inr (2, [.ref (q 20), .ref (q 21), .int (nI (a.1 8)), .int (nI (a.1 14) - 1), .int (nI (a.1 13))])), (q 20, .inl (cZ, 300, .inl (a.2 2))), (q 21, .inl (cI, 300, .inl (upd (a.2 4) (a.1 8) (nI p9))))] := hD
  refine lv_aload_n hx hb dX2_ask_20 rfl (lv_at hl 0 rfl) ?_
  refine lv_dup hx hb dX2_ask_21 rfl ?_
  refine va_get (D := D) (ci := 2) (v := .int (nI (a.1 8))) (C := RX2) (T := TX2) (N := 5) hx hb hts hinX2 hown hK hP 0 rfl rfl 2 (by decide) (hts _ (List.mem_of_getElem? (i := 1) rfl)) (fun _ h9 => h9) rfl dX2_ask_22 ?_
  refine lv_iconst (v := nI 1) hx hb dX2_ask_25 (by decide) ?_
  refine k_iadd hx hb dX2_ask_26 ?_
  refine va_put (D := D) (ci := 2) (v := .int (nI ((a.1 8) + 1))) (ty := .int) (C := RX2) (T := TX2) (N := 5) hx hb hts hinX2 tyX2 tyX2_ok nmX2 hown hK hP hD hS 0 rfl rfl 2 (by decide) (hts _ (List.mem_of_getElem? (i := 1) rfl)) (fun _ h9 => h9) rfl (by decide +kernel) rfl rfl (Nat.le_of_ble_eq_true rfl) dX2_ask_27 (fun H locs hP hD hS => ?_)
  have hP : va_P D vwCl [(q 2, .inr (2, [.ref (q 20), .ref (q 21), .int (nI ((a.1 8) + 1)), .int (nI (a.1 14) - 1), .int (nI (a.1 13))])), (q 20, .inl (cZ, 300, .inl (a.2 2))), (q 21, .inl (cI, 300, .inl (upd (a.2 4) (a.1 8) (nI p9))))] H := hP
  have hD : va_D A [(q 2, .inr (2, [.ref (q 20), .ref (q 21), .int (nI ((a.1 8) + 1)), .int (nI (a.1 14) - 1), .int (nI (a.1 13))])), (q 20, .inl (cZ, 300, .inl (a.2 2))), (q 21, .inl (cI, 300, .inl (upd (a.2 4) (a.1 8) (nI p9))))] := hD
  exact k_vret hx hb hr hlk () trivial hP hD hS dX2_ask_30
set_option maxHeartbeats 4000000 in
set_option maxRecDepth 100000 in
theorem c_X2_askForMissing (l : Launch) (D : va_G) (cI cZ : ClassId) (q : Nat → Nat) (a : AS) (hI : AI a) : kMv l yX2_askForMissing wsX2_askForMissing 2 41 D (TY cI cZ) [.ref (q 2), .int (nI (a.1 11))] [(q 2, .inr (2, [.ref (q 20), .ref (q 21), .int (nI (a.1 8)), .int (nI (a.1 14) - 1), .int (nI (a.1 13))])), (q 20, .inl (cZ, 300, .inl (a.2 2))), (q 21, .inl (cI, 300, .inl (a.2 4)))] (fun (_ : Unit) => True) (fun (_ : Unit) => SWa cI cZ q (a_ask a)) := by
  obtain ⟨⟨i0, i4, i5, i7, i9, i10, i11, i12⟩, ⟨i1, i2, i3⟩, ⟨i8, i13, i14⟩, iQ, iH0, iH1, iW0, iW1, iN⟩ := id hI
  intro sz
  refine k_in (Qc := fun A => va_Qv (fun (_ : Unit) => True) (kB D A (fun (_ : Unit) => SWa cI cZ q (a_ask a))) A) (cc := cX2_askForMissing) (maxL := 3) (ret := none) (by decide) rfl (Nat.le_of_ble_eq_true rfl) ?_
  intro p e s m below meth c A ls hfix hr hlk hN hP hK hD hA hS hl
  have hfix : CallFix p m c cX2_askForMissing 3 s [.ref (q 2), .int (nI (a.1 11))].toArray wsX2_askForMissing RX2 := hfix
  have hl : lv_has ls 3 [(0, .ref (q 2)), (1, .int (nI (a.1 11)))] := hl
  obtain ⟨hx, hb, hml, hown, hts⟩ := id hfix
  have hinX2 : ∀ w ∈ wsX20, w ∈ wsX2_askForMissing := fun _ h => List.mem_cons_of_mem _ (List.mem_append_right _ h)
  have hP : va_P D vwCl [(q 2, .inr (2, [.ref (q 20), .ref (q 21), .int (nI (a.1 8)), .int (nI (a.1 14) - 1), .int (nI (a.1 13))])), (q 20, .inl (cZ, 300, .inl (a.2 2))), (q 21, .inl (cI, 300, .inl (a.2 4)))] s.heap := hP
  have hD : va_D A [(q 2, .inr (2, [.ref (q 20), .ref (q 21), .int (nI (a.1 8)), .int (nI (a.1 14) - 1), .int (nI (a.1 13))])), (q 20, .inl (cZ, 300, .inl (a.2 2))), (q 21, .inl (cI, 300, .inl (a.2 4)))] := hD
  have hS : ∃ (H : Heap) (locs : List Loc), H = s.heap ∧ locs = [] ∧ va_S A s.heap H locs := ⟨_, _, rfl, rfl, hS⟩
  obtain ⟨H, locs, hH, hlocs, hS⟩ := hS
  rw [← hH] at hP
  suffices hW9 : W p l e ({ frames := 2, cells := 0, slots := 0, locals := 41 } : Room) s m [.ref (q 2), .int (nI (a.1 11))].toArray below meth c H locs 0 0 (MQ below (va_Qv (fun (_ : Unit) => True) (kB D A (fun (_ : Unit) => SWa cI cZ q (a_ask a))) A) [.ref (q 2), .int (nI (a.1 11))].toArray s 0 0 A) (F0 m 0 ls []) by rw [hH, hlocs] at hW9; exact hW9
  clear hH hlocs
  have at5 : ∀ (n9 : Nat) (k : Nat) (hf9 : (a.1 14 - 1 - a.1 13 - k) < n9) (hk : k ≤ a.1 14 - 1 - a.1 13) (H : Heap) (locs : List Loc) (ls : Array Slot) (hP : va_P D vwCl [(q 2, .inr (2, [.ref (q 20), .ref (q 21), .int (nI ((a_askS a k).1)), .int (nI (a.1 14) - 1), .int (nI (a.1 13))])), (q 20, .inl (cZ, 300, .inl (a.2 2))), (q 21, .inl (cI, 300, .inl ((a_askS a k).2.1)))] H) (hD : va_D A [(q 2, .inr (2, [.ref (q 20), .ref (q 21), .int (nI ((a_askS a k).1)), .int (nI (a.1 14) - 1), .int (nI (a.1 13))])), (q 20, .inl (cZ, 300, .inl (a.2 2))), (q 21, .inl (cI, 300, .inl ((a_askS a k).2.1)))]) (hS : va_S A s.heap H locs) (hl : lv_has ls 3 [(0, .ref (q 2)), (1, .int (nI (a.1 11))), (2, .int (nI (a.1 13 + k)))]), W p l e ({ frames := 2, cells := 0, slots := 0, locals := 41 } : Room) s m [.ref (q 2), .int (nI (a.1 11))].toArray below meth c H locs 0 0 (MQ below (va_Qv (fun (_ : Unit) => True) (kB D A (fun (_ : Unit) => SWa cI cZ q (a_ask a))) A) [.ref (q 2), .int (nI (a.1 11))].toArray s 0 0 A) (F0 m 5 ls []) := by
    intro n9
    induction n9 with
    | zero => intro k hf9 hk H locs ls hP hD hS hl; exact absurd hf9 (Nat.not_lt_zero _)
    | succ n9 ih9 =>
      intro k hf9 hk H locs ls hP hD hS hl
      refine lv_iload_n hx hb dX2_askForMissing_5 rfl (lv_at hl 2 rfl) ?_
      refine lv_aload_n hx hb dX2_askForMissing_6 rfl (lv_at hl 0 rfl) ?_
      refine va_get (D := D) (ci := 2) (v := .int (nI (a.1 14) - 1)) (C := RX2) (T := TX2) (N := 5) hx hb hts hinX2 hown hK hP 0 rfl rfl 3 (by decide) (hts _ (List.mem_of_getElem? (i := 2) rfl)) (fun _ h9 => h9) rfl dX2_askForMissing_7 ?_
      refine lv_icmp_ge (tgt := 39) hx hb dX2_askForMissing_10 (by decide) (fun c_10 => ?_) (fun c_10 => ?_)
      · -- c_10 taken
        refine lv_aload_n hx hb dX2_askForMissing_39 rfl (lv_at hl 0 rfl) ?_
        refine lv_aload_n hx hb dX2_askForMissing_40 rfl (lv_at hl 0 rfl) ?_
        refine va_get (D := D) (ci := 2) (v := .int (nI (a.1 13))) (C := RX2) (T := TX2) (N := 5) hx hb hts hinX2 hown hK hP 0 rfl rfl 4 (by decide) (hts _ (List.mem_of_getElem? (i := 1) rfl)) (fun _ h9 => h9) rfl dX2_askForMissing_41 ?_
        refine lv_aload_n hx hb dX2_askForMissing_44 rfl (lv_at hl 0 rfl) ?_
        refine va_get (D := D) (ci := 2) (v := .int (nI (a.1 14) - 1)) (C := RX2) (T := TX2) (N := 5) hx hb hts hinX2 hown hK hP 0 rfl rfl 3 (by decide) (hts _ (List.mem_of_getElem? (i := 2) rfl)) (fun _ h9 => h9) rfl dX2_askForMissing_45 ?_
        refine va_mmax hx hb (hml.trans hl.1.symm) hown (hts _ (List.mem_of_getElem? (i := 3) rfl)) (hts _ (List.mem_of_getElem? (i := 4) rfl)) (hts _ (List.mem_of_getElem? (i := 5) rfl)) (hts _ (List.mem_of_getElem? (i := 6) rfl)) (Nat.le_of_ble_eq_true rfl) (Nat.le_of_ble_eq_true rfl) (Nat.zero_le _) (Nat.zero_le _) dX2_askForMissing_48 ?_
        rw [show (if nI (a.1 13) < (nI (a.1 14) - 1) then (nI (a.1 14) - 1) else nI (a.1 13)) = nI (max (a.1 13) (a.1 14 - 1)) from k_maxl i14 (by omega)]
        refine va_put (D := D) (ci := 2) (v := .int (nI (max (a.1 13) (a.1 14 - 1)))) (ty := .int) (C := RX2) (T := TX2) (N := 5) hx hb hts hinX2 tyX2 tyX2_ok nmX2 hown hK hP hD hS 0 rfl rfl 4 (by decide) (hts _ (List.mem_of_getElem? (i := 1) rfl)) (fun _ h9 => h9) rfl (by decide +kernel) rfl rfl (Nat.le_of_ble_eq_true rfl) dX2_askForMissing_51 (fun H locs hP hD hS => ?_)
        have hP : va_P D vwCl [(q 2, .inr (2, [.ref (q 20), .ref (q 21), .int (nI ((a_askS a k).1)), .int (nI (a.1 14) - 1), .int (nI (max (a.1 13) (a.1 14 - 1)))])), (q 20, .inl (cZ, 300, .inl (a.2 2))), (q 21, .inl (cI, 300, .inl ((a_askS a k).2.1)))] H := hP
        have hD : va_D A [(q 2, .inr (2, [.ref (q 20), .ref (q 21), .int (nI ((a_askS a k).1)), .int (nI (a.1 14) - 1), .int (nI (max (a.1 13) (a.1 14 - 1)))])), (q 20, .inl (cZ, 300, .inl (a.2 2))), (q 21, .inl (cI, 300, .inl ((a_askS a k).2.1)))] := hD
        have c_10 := (k_hle i14 (by omega)).mp c_10
        obtain rfl : k = a.1 14 - 1 - a.1 13 := by omega
        exact k_vret hx hb hr hlk () trivial hP hD hS dX2_askForMissing_54
      · -- c_10 not taken
        refine lv_aload_n hx hb dX2_askForMissing_13 rfl (lv_at hl 0 rfl) ?_
        refine lv_iload_n hx hb dX2_askForMissing_14 rfl (lv_at hl 2 rfl) ?_
        refine k_callVi (n := 1) (wr := []) (As := [.int (nI (a.1 13 + k))]) (rest := []) hfix hN hK hP hD hS hA hl.1 (c_X2_holds l D cI cZ q (a_askK a k) (a.1 13 + k) (by have := (k_hlt i14 (by omega)).mp (Int32.not_le.mp c_10); omega)) gX2_askForMissing_X2_holds rfl (by decide +kernel) rfl ⟨Nat.le_of_ble_eq_true rfl, Nat.le_of_ble_eq_true rfl⟩ [0, 1, 2] [] rfl rfl (by decide) (by decide) (by decide) 0 rfl rfl rfl (Nat.le_of_ble_eq_true rfl) ⟨Nat.zero_le _, Nat.zero_le _⟩ dX2_askForMissing_15 (fun r_15 u H locs hw_15 hP hD hS => ?_)
        have hP : va_P D vwCl [(q 2, .inr (2, [.ref (q 20), .ref (q 21), .int (nI ((a_askS a k).1)), .int (nI (a.1 14) - 1), .int (nI (a.1 13))])), (q 20, .inl (cZ, 300, .inl (a.2 2))), (q 21, .inl (cI, 300, .inl ((a_askS a k).2.1)))] H := hP.sub [0, 1, 2] rfl
        have hD : va_D A [(q 2, .inr (2, [.ref (q 20), .ref (q 21), .int (nI ((a_askS a k).1)), .int (nI (a.1 14) - 1), .int (nI (a.1 13))])), (q 20, .inl (cZ, 300, .inl (a.2 2))), (q 21, .inl (cI, 300, .inl ((a_askS a k).2.1)))] := hD.sub [0, 1, 2] (by decide) rfl
        by_cases e_15 : (a_askK a k).2 2 (a.1 13 + k) = 0
        · rw [if_pos e_15] at hw_15
          obtain rfl : r_15 = nI 0 := hw_15
          refine k_if_ne (tgt := 33) hx hb (by decide) dX2_askForMissing_18 (by decide) (fun q => absurd q (by decide)) (fun _ => ?_)
          refine lv_iload_n hx hb dX2_askForMissing_21 rfl (lv_at hl 2 rfl) ?_
          refine lv_iconst (v := nI 3) hx hb dX2_askForMissing_22 (by decide) ?_
          refine k_idiv hx hb (by omega) (by decide) (by decide) dX2_askForMissing_23 ?_
          refine lv_iload_n hx hb dX2_askForMissing_24 rfl (lv_at hl 1 rfl) ?_
          refine k_icmp_lt (tgt := 33) hx hb (by omega) (by omega) dX2_askForMissing_25 (by decide) (fun c_25 => ?_) (fun c_25 => ?_)
          · -- c_25 taken
            refine lv_iinc (v := nI (a.1 13 + k + 1)) (lv' := [(2, .int (nI (a.1 13 + k + 1))), (0, .ref (q 2)), (1, .int (nI (a.1 11)))]) hx hb dX2_askForMissing_33 hl (k := 2) rfl (nI_add (a.1 13 + k) 1) (by decide) rfl (fun ls hl => ?_)
            refine lv_goto (tgt := 5) hx hb dX2_askForMissing_36 (by decide) ?_
            have h9 := (k_hlt i14 (by omega)).mp (Int32.not_le.mp c_10)
            exact ih9 (k + 1) (by omega) (by have := (k_hlt i14 (by omega)).mp (Int32.not_le.mp c_10); omega) H locs ls (by rw [a_askS_f (a := a) (k := k) (fun h => by have := h.2; omega)]; exact hP) (by rw [a_askS_f (a := a) (k := k) (fun h => by have := h.2; omega)]; exact hD) hS (lv_sub hl [1, 2, 0] rfl)
          · -- c_25 not taken
            refine lv_aload_n hx hb dX2_askForMissing_28 rfl (lv_at hl 0 rfl) ?_
            refine lv_iload_n hx hb dX2_askForMissing_29 rfl (lv_at hl 2 rfl) ?_
            refine k_callVv (n := 1) (wr := []) (As := [.int (nI (a.1 13 + k))]) (rest := []) hfix hN hK hP hD hS hA hl.1 (c_X2_ask l D cI cZ q (a_askK a k) (a.1 13 + k) (by have := (k_hlt i14 (by omega)).mp (Int32.not_le.mp c_10); have h9 := askS_le (had := a.2 2) (nx := a.1 11) (lu := a.1 13) (a.1 8, a.2 4, a.2 3) k; show (a_askS a k).1 < 300; show (askS (a.2 2) (a.1 11) (a.1 13) k (a.1 8, a.2 4, a.2 3)).1 < 300; dsimp only at h9; omega)) gX2_askForMissing_X2_ask rfl (by decide +kernel) rfl ⟨Nat.le_of_ble_eq_true rfl, Nat.le_of_ble_eq_true rfl⟩ [0, 1, 2] [] rfl rfl (by decide) (by decide) (by decide) 0 rfl rfl rfl (Nat.le_of_ble_eq_true rfl) ⟨Nat.zero_le _, Nat.zero_le _⟩ dX2_askForMissing_30 (fun u H locs hw_30 hP hD hS => ?_)
            have hP : va_P D vwCl [(q 2, .inr (2, [.ref (q 20), .ref (q 21), .int (nI ((a_askS a k).1 + 1)), .int (nI (a.1 14) - 1), .int (nI (a.1 13))])), (q 20, .inl (cZ, 300, .inl (a.2 2))), (q 21, .inl (cI, 300, .inl (upd (a_askS a k).2.1 (a_askS a k).1 (nI (a.1 13 + k)))))] H := hP.sub [0, 1, 2] rfl
            have hD : va_D A [(q 2, .inr (2, [.ref (q 20), .ref (q 21), .int (nI ((a_askS a k).1 + 1)), .int (nI (a.1 14) - 1), .int (nI (a.1 13))])), (q 20, .inl (cZ, 300, .inl (a.2 2))), (q 21, .inl (cI, 300, .inl (upd (a_askS a k).2.1 (a_askS a k).1 (nI (a.1 13 + k)))))] := hD.sub [0, 1, 2] (by decide) rfl
            refine lv_iinc (v := nI (a.1 13 + k + 1)) (lv' := [(2, .int (nI (a.1 13 + k + 1))), (0, .ref (q 2)), (1, .int (nI (a.1 11)))]) hx hb dX2_askForMissing_33 hl (k := 2) rfl (nI_add (a.1 13 + k) 1) (by decide) rfl (fun ls hl => ?_)
            refine lv_goto (tgt := 5) hx hb dX2_askForMissing_36 (by decide) ?_
            have h9 := (k_hlt i14 (by omega)).mp (Int32.not_le.mp c_10)
            exact ih9 (k + 1) (by omega) (by have := (k_hlt i14 (by omega)).mp (Int32.not_le.mp c_10); omega) H locs ls (by rw [a_askS_t (a := a) (k := k) ⟨e_15, c_25⟩]; exact hP) (by rw [a_askS_t (a := a) (k := k) ⟨e_15, c_25⟩]; exact hD) hS (lv_sub hl [1, 2, 0] rfl)
        · rw [if_neg e_15] at hw_15
          obtain rfl : r_15 = nI 1 := hw_15
          refine k_if_ne (tgt := 33) hx hb (by decide) dX2_askForMissing_18 (by decide) (fun _ => ?_) (fun q => absurd q (by decide))
          refine lv_iinc (v := nI (a.1 13 + k + 1)) (lv' := [(2, .int (nI (a.1 13 + k + 1))), (0, .ref (q 2)), (1, .int (nI (a.1 11)))]) hx hb dX2_askForMissing_33 hl (k := 2) rfl (nI_add (a.1 13 + k) 1) (by decide) rfl (fun ls hl => ?_)
          refine lv_goto (tgt := 5) hx hb dX2_askForMissing_36 (by decide) ?_
          have h9 := (k_hlt i14 (by omega)).mp (Int32.not_le.mp c_10)
          exact ih9 (k + 1) (by omega) (by have := (k_hlt i14 (by omega)).mp (Int32.not_le.mp c_10); omega) H locs ls (by rw [a_askS_f (a := a) (k := k) (fun h => e_15 h.1)]; exact hP) (by rw [a_askS_f (a := a) (k := k) (fun h => e_15 h.1)]; exact hD) hS (lv_sub hl [1, 2, 0] rfl)
  refine lv_aload_n hx hb dX2_askForMissing_0 rfl (lv_at hl 0 rfl) ?_
  refine va_get (D := D) (ci := 2) (v := .int (nI (a.1 13))) (C := RX2) (T := TX2) (N := 5) hx hb hts hinX2 hown hK hP 0 rfl rfl 4 (by decide) (hts _ (List.mem_of_getElem? (i := 1) rfl)) (fun _ h9 => h9) rfl dX2_askForMissing_1 ?_
  refine lv_istore_n (lv' := [(2, .int (nI (a.1 13))), (0, .ref (q 2)), (1, .int (nI (a.1 11)))]) hx hb dX2_askForMissing_4 rfl hl (by decide) rfl (fun ls hl => ?_)
  exact at5 _ 0 (Nat.lt_succ_self _) (Nat.zero_le _) H locs ls hP hD hS (lv_sub hl [1, 2, 0] rfl)
