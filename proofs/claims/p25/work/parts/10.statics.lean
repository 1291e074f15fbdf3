/-! static methods -/
set_option maxHeartbeats 4000000 in
set_option maxRecDepth 100000 in
theorem c_X3_isPacket (l : Launch) (D : va_G) (cI cZ : ClassId) (x : Int32) : kMi l yX3_isPacket wsX3_isPacket 0 0 D (TY cI cZ) [.int x] [] (fun (r : Int32) (_ : Unit) => r = (if inR x 300 then nI 1 else nI 0)) (fun (_ : Unit) => ([] : va_W)) := by
  intro sz
  refine k_in (Qc := fun A => va_Qi (fun (r : Int32) (_ : Unit) => r = (if inR x 300 then nI 1 else nI 0)) (kB D A (fun (_ : Unit) => ([] : va_W))) A) (cc := cX3_isPacket) (maxL := 1) (ret := (some .boolean)) (by decide) rfl (Nat.le_of_ble_eq_true rfl) ?_
  intro p e s m below meth c A ls hfix hr hlk hN hP hK hD hA hS hl
  have hfix : CallFix p m c cX3_isPacket 1 s [.int x].toArray wsX3_isPacket RX3 := hfix
  have hl : lv_has ls 1 [(0, .int x)] := hl
  obtain ⟨hx, hb, hml, hown, hts⟩ := id hfix
  have hP : va_P D vwCl [] s.heap := hP
  have hD : va_D A [] := hD
  have hS : ∃ (H : Heap) (locs : List Loc), H = s.heap ∧ locs = [] ∧ va_S A s.heap H locs := ⟨_, _, rfl, rfl, hS⟩
  obtain ⟨H, locs, hH, hlocs, hS⟩ := hS
  rw [← hH] at hP
  suffices hW9 : W p l e ({ frames := 0, cells := 0, slots := 0, locals := 0 } : Room) s m [.int x].toArray below meth c H locs 0 0 (MQ below (va_Qi (fun (r : Int32) (_ : Unit) => r = (if inR x 300 then nI 1 else nI 0)) (kB D A (fun (_ : Unit) => ([] : va_W))) A) [.int x].toArray s 0 0 A) (F0 m 0 ls []) by rw [hH, hlocs] at hW9; exact hW9
  clear hH hlocs
  refine lv_iload_n hx hb dX3_isPacket_0 rfl (lv_at hl 0 rfl) ?_
  refine lv_if_lt (tgt := 15) hx hb dX3_isPacket_1 (by decide) (fun c_1 => ?_) (fun c_1 => ?_)
  · -- c_1 taken
    refine lv_iconst (v := nI 0) hx hb dX3_isPacket_15 (by decide) ?_
    exact k_iret (v := nI 0) hx hb hr hlk (by decide) () ((if_neg (fun h => h.1 c_1)).symm) hP hD hS dX3_isPacket_16
  · -- c_1 not taken
    refine lv_iload_n hx hb dX3_isPacket_4 rfl (lv_at hl 0 rfl) ?_
    refine lv_sipush (v := nI 300) hx hb dX3_isPacket_5 (by decide) ?_
    refine lv_icmp_ge (tgt := 15) hx hb dX3_isPacket_8 (by decide) (fun c_8 => ?_) (fun c_8 => ?_)
    · -- c_8 taken
      refine lv_iconst (v := nI 0) hx hb dX3_isPacket_15 (by decide) ?_
      exact k_iret (v := nI 0) hx hb hr hlk (by decide) () ((if_neg (fun h => h.2 c_8)).symm) hP hD hS dX3_isPacket_16
    · -- c_8 not taken
      refine lv_iconst (v := nI 1) hx hb dX3_isPacket_11 (by decide) ?_
      refine lv_goto (tgt := 16) hx hb dX3_isPacket_12 (by decide) ?_
      exact k_iret (v := nI 1) hx hb hr hlk (by decide) () ((if_pos ⟨c_1, c_8⟩).symm) hP hD hS dX3_isPacket_16
set_option maxHeartbeats 4000000 in
set_option maxRecDepth 100000 in
theorem c_X3_isFrame (l : Launch) (D : va_G) (cI cZ : ClassId) (x : Int32) : kMi l yX3_isFrame wsX3_isFrame 0 0 D (TY cI cZ) [.int x] [] (fun (r : Int32) (_ : Unit) => r = (if inR x 100 then nI 1 else nI 0)) (fun (_ : Unit) => ([] : va_W)) := by
  intro sz
  refine k_in (Qc := fun A => va_Qi (fun (r : Int32) (_ : Unit) => r = (if inR x 100 then nI 1 else nI 0)) (kB D A (fun (_ : Unit) => ([] : va_W))) A) (cc := cX3_isFrame) (maxL := 1) (ret := (some .boolean)) (by decide) rfl (Nat.le_of_ble_eq_true rfl) ?_
  intro p e s m below meth c A ls hfix hr hlk hN hP hK hD hA hS hl
  have hfix : CallFix p m c cX3_isFrame 1 s [.int x].toArray wsX3_isFrame RX3 := hfix
  have hl : lv_has ls 1 [(0, .int x)] := hl
  obtain ⟨hx, hb, hml, hown, hts⟩ := id hfix
  have hP : va_P D vwCl [] s.heap := hP
  have hD : va_D A [] := hD
  have hS : ∃ (H : Heap) (locs : List Loc), H = s.heap ∧ locs = [] ∧ va_S A s.heap H locs := ⟨_, _, rfl, rfl, hS⟩
  obtain ⟨H, locs, hH, hlocs, hS⟩ := hS
  rw [← hH] at hP
  suffices hW9 : W p l e ({ frames := 0, cells := 0, slots := 0, locals := 0 } : Room) s m [.int x].toArray below meth c H locs 0 0 (MQ below (va_Qi (fun (r : Int32) (_ : Unit) => r = (if inR x 100 then nI 1 else nI 0)) (kB D A (fun (_ : Unit) => ([] : va_W))) A) [.int x].toArray s 0 0 A) (F0 m 0 ls []) by rw [hH, hlocs] at hW9; exact hW9
  clear hH hlocs
  refine lv_iload_n hx hb dX3_isFrame_0 rfl (lv_at hl 0 rfl) ?_
  refine lv_if_lt (tgt := 14) hx hb dX3_isFrame_1 (by decide) (fun c_1 => ?_) (fun c_1 => ?_)
  · -- c_1 taken
    refine lv_iconst (v := nI 0) hx hb dX3_isFrame_14 (by decide) ?_
    exact k_iret (v := nI 0) hx hb hr hlk (by decide) () ((if_neg (fun h => h.1 c_1)).symm) hP hD hS dX3_isFrame_15
  · -- c_1 not taken
    refine lv_iload_n hx hb dX3_isFrame_4 rfl (lv_at hl 0 rfl) ?_
    refine lv_bipush (v := nI 100) hx hb dX3_isFrame_5 (by decide) ?_
    refine lv_icmp_ge (tgt := 14) hx hb dX3_isFrame_7 (by decide) (fun c_7 => ?_) (fun c_7 => ?_)
    · -- c_7 taken
      refine lv_iconst (v := nI 0) hx hb dX3_isFrame_14 (by decide) ?_
      exact k_iret (v := nI 0) hx hb hr hlk (by decide) () ((if_neg (fun h => h.2 c_7)).symm) hP hD hS dX3_isFrame_15
    · -- c_7 not taken
      refine lv_iconst (v := nI 1) hx hb dX3_isFrame_10 (by decide) ?_
      refine lv_goto (tgt := 15) hx hb dX3_isFrame_11 (by decide) ?_
      exact k_iret (v := nI 1) hx hb hr hlk (by decide) () ((if_pos ⟨c_1, c_7⟩).symm) hP hD hS dX3_isFrame_15
set_option maxHeartbeats 4000000 in
set_option maxRecDepth 100000 in
theorem c_X3_isFromOneTo (l : Launch) (D : va_G) (cI cZ : ClassId) (x y : Int32) : kMi l yX3_isFromOneTo wsX3_isFromOneTo 0 0 D (TY cI cZ) [.int x, .int y] [] (fun (r : Int32) (_ : Unit) => r = (if ¬ x < nI 1 ∧ ¬ y < x then nI 1 else nI 0)) (fun (_ : Unit) => ([] : va_W)) := by
  intro sz
  refine k_in (Qc := fun A => va_Qi (fun (r : Int32) (_ : Unit) => r = (if ¬ x < nI 1 ∧ ¬ y < x then nI 1 else nI 0)) (kB D A (fun (_ : Unit) => ([] : va_W))) A) (cc := cX3_isFromOneTo) (maxL := 2) (ret := (some .boolean)) (by decide) rfl (Nat.le_of_ble_eq_true rfl) ?_
  intro p e s m below meth c A ls hfix hr hlk hN hP hK hD hA hS hl
  have hfix : CallFix p m c cX3_isFromOneTo 2 s [.int x, .int y].toArray wsX3_isFromOneTo RX3 := hfix
  have hl : lv_has ls 2 [(0, .int x), (1, .int y)] := hl
  obtain ⟨hx, hb, hml, hown, hts⟩ := id hfix
  have hP : va_P D vwCl [] s.heap := hP
  have hD : va_D A [] := hD
  have hS : ∃ (H : Heap) (locs : List Loc), H = s.heap ∧ locs = [] ∧ va_S A s.heap H locs := ⟨_, _, rfl, rfl, hS⟩
  obtain ⟨H, locs, hH, hlocs, hS⟩ := hS
  rw [← hH] at hP
  suffices hW9 : W p l e ({ frames := 0, cells := 0, slots := 0, locals := 0 } : Room) s m [.int x, .int y].toArray below meth c H locs 0 0 (MQ below (va_Qi (fun (r : Int32) (_ : Unit) => r = (if ¬ x < nI 1 ∧ ¬ y < x then nI 1 else nI 0)) (kB D A (fun (_ : Unit) => ([] : va_W))) A) [.int x, .int y].toArray s 0 0 A) (F0 m 0 ls []) by rw [hH, hlocs] at hW9; exact hW9
  clear hH hlocs
  refine lv_iload_n hx hb dX3_isFromOneTo_0 rfl (lv_at hl 0 rfl) ?_
  refine lv_iconst (v := nI 1) hx hb dX3_isFromOneTo_1 (by decide) ?_
  refine lv_icmp_lt (tgt := 14) hx hb dX3_isFromOneTo_2 (by decide) (fun c_2 => ?_) (fun c_2 => ?_)
  · -- c_2 taken
    refine lv_iconst (v := nI 0) hx hb dX3_isFromOneTo_14 (by decide) ?_
    exact k_iret (v := nI 0) hx hb hr hlk (by decide) () ((if_neg (fun h => h.1 c_2)).symm) hP hD hS dX3_isFromOneTo_15
  · -- c_2 not taken
    refine lv_iload_n hx hb dX3_isFromOneTo_5 rfl (lv_at hl 0 rfl) ?_
    refine lv_iload_n hx hb dX3_isFromOneTo_6 rfl (lv_at hl 1 rfl) ?_
    refine lv_icmp_gt (tgt := 14) hx hb dX3_isFromOneTo_7 (by decide) (fun c_7 => ?_) (fun c_7 => ?_)
    · -- c_7 taken
      refine lv_iconst (v := nI 0) hx hb dX3_isFromOneTo_14 (by decide) ?_
      exact k_iret (v := nI 0) hx hb hr hlk (by decide) () ((if_neg (fun h => h.2 c_7)).symm) hP hD hS dX3_isFromOneTo_15
    · -- c_7 not taken
      refine lv_iconst (v := nI 1) hx hb dX3_isFromOneTo_10 (by decide) ?_
      refine lv_goto (tgt := 15) hx hb dX3_isFromOneTo_11 (by decide) ?_
      exact k_iret (v := nI 1) hx hb hr hlk (by decide) () ((if_pos ⟨c_2, c_7⟩).symm) hP hD hS dX3_isFromOneTo_15
set_option maxHeartbeats 4000000 in
set_option maxRecDepth 100000 in
theorem c_X0_kind (l : Launch) (D : va_G) (cI cZ : ClassId) (f : Nat) (hf : f < 100) : kMi l yX0_kind wsX0_kind 0 0 D (TY cI cZ) [.int (nI f)] [] (fun (r : Int32) (_ : Unit) => r = (if f % 6 = 0 then nI 0 else (if f % 3 = 0 then nI 1 else nI 2))) (fun (_ : Unit) => ([] : va_W)) := by
  intro sz
  refine k_in (Qc := fun A => va_Qi (fun (r : Int32) (_ : Unit) => r = (if f % 6 = 0 then nI 0 else (if f % 3 = 0 then nI 1 else nI 2))) (kB D A (fun (_ : Unit) => ([] : va_W))) A) (cc := cX0_kind) (maxL := 1) (ret := (some .int)) (by decide) rfl (Nat.le_of_ble_eq_true rfl) ?_
  intro p e s m below meth c A ls hfix hr hlk hN hP hK hD hA hS hl
  have hfix : CallFix p m c cX0_kind 1 s [.int (nI f)].toArray wsX0_kind RX0 := hfix
  have hl : lv_has ls 1 [(0, .int (nI f))] := hl
  obtain ⟨hx, hb, hml, hown, hts⟩ := id hfix
  have hP : va_P D vwCl [] s.heap := hP
  have hD : va_D A [] := hD
  have hS : ∃ (H : Heap) (locs : List Loc), H = s.heap ∧ locs = [] ∧ va_S A s.heap H locs := ⟨_, _, rfl, rfl, hS⟩
  obtain ⟨H, locs, hH, hlocs, hS⟩ := hS
  rw [← hH] at hP
  suffices hW9 : W p l e ({ frames := 0, cells := 0, slots := 0, locals := 0 } : Room) s m [.int (nI f)].toArray below meth c H locs 0 0 (MQ below (va_Qi (fun (r : Int32) (_ : Unit) => r = (if f % 6 = 0 then nI 0 else (if f % 3 = 0 then nI 1 else nI 2))) (kB D A (fun (_ : Unit) => ([] : va_W))) A) [.int (nI f)].toArray s 0 0 A) (F0 m 0 ls []) by rw [hH, hlocs] at hW9; exact hW9
  clear hH hlocs
  refine lv_iload_n hx hb dX0_kind_0 rfl (lv_at hl 0 rfl) ?_
  refine lv_bipush (v := nI 6) hx hb dX0_kind_1 (by decide) ?_
  refine k_irem hx hb (by omega) (by decide) (by decide) dX0_kind_3 ?_
  refine k_if_ne (tgt := 9) hx hb (by omega) dX0_kind_4 (by decide) (fun c_4 => ?_) (fun c_4 => ?_)
  · -- c_4 taken
    refine lv_iload_n hx hb dX0_kind_9 rfl (lv_at hl 0 rfl) ?_
    refine lv_iconst (v := nI 3) hx hb dX0_kind_10 (by decide) ?_
    refine k_irem hx hb (by omega) (by decide) (by decide) dX0_kind_11 ?_
    refine k_if_ne (tgt := 19) hx hb (by omega) dX0_kind_12 (by decide) (fun c_12 => ?_) (fun c_12 => ?_)
    · -- c_12 taken
      refine lv_iconst (v := nI 2) hx hb dX0_kind_19 (by decide) ?_
      exact k_iret (v := nI 2) hx hb hr hlk rfl () (by rw [if_neg c_4, if_neg c_12]) hP hD hS dX0_kind_20
    · -- c_12 not taken
      refine lv_iconst (v := nI 1) hx hb dX0_kind_15 (by decide) ?_
      refine lv_goto (tgt := 20) hx hb dX0_kind_16 (by decide) ?_
      exact k_iret (v := nI 1) hx hb hr hlk rfl () (by rw [if_neg c_4, if_pos c_12]) hP hD hS dX0_kind_20
  · -- c_4 not taken
    refine lv_iconst (v := nI 0) hx hb dX0_kind_7 (by decide) ?_
    exact k_iret (v := nI 0) hx hb hr hlk rfl () ((if_pos c_4).symm) hP hD hS dX0_kind_8
set_option maxHeartbeats 4000000 in
set_option maxRecDepth 100000 in
theorem c_X0_needBefore (l : Launch) (D : va_G) (cI cZ : ClassId) (f : Nat) (hf : f < 100) : kMi l yX0_needBefore wsX0_needBefore 1 20 D (TY cI cZ) [.int (nI f)] [] (fun (r : Int32) (_ : Unit) => r = (if f % 6 = 0 then (-1) else nI (bef f))) (fun (_ : Unit) => ([] : va_W)) := by
  intro sz
  refine k_in (Qc := fun A => va_Qi (fun (r : Int32) (_ : Unit) => r = (if f % 6 = 0 then (-1) else nI (bef f))) (kB D A (fun (_ : Unit) => ([] : va_W))) A) (cc := cX0_needBefore) (maxL := 2) (ret := (some .int)) (by decide) rfl (Nat.le_of_ble_eq_true rfl) ?_
  intro p e s m below meth c A ls hfix hr hlk hN hP hK hD hA hS hl
  have hfix : CallFix p m c cX0_needBefore 2 s [.int (nI f)].toArray wsX0_needBefore RX0 := hfix
  have hl : lv_has ls 2 [(0, .int (nI f))] := hl
  obtain ⟨hx, hb, hml, hown, hts⟩ := id hfix
  have hP : va_P D vwCl [] s.heap := hP
  have hD : va_D A [] := hD
  have hS : ∃ (H : Heap) (locs : List Loc), H = s.heap ∧ locs = [] ∧ va_S A s.heap H locs := ⟨_, _, rfl, rfl, hS⟩
  obtain ⟨H, locs, hH, hlocs, hS⟩ := hS
  rw [← hH] at hP
  suffices hW9 : W p l e ({ frames := 1, cells := 0, slots := 0, locals := 20 } : Room) s m [.int (nI f)].toArray below meth c H locs 0 0 (MQ below (va_Qi (fun (r : Int32) (_ : Unit) => r = (if f % 6 = 0 then (-1) else nI (bef f))) (kB D A (fun (_ : Unit) => ([] : va_W))) A) [.int (nI f)].toArray s 0 0 A) (F0 m 0 ls []) by rw [hH, hlocs] at hW9; exact hW9
  clear hH hlocs
  refine lv_iload_n hx hb dX0_needBefore_0 rfl (lv_at hl 0 rfl) ?_
  refine k_callSi (n := 1) (As := [.int (nI f)]) (rest := []) hfix hN hK hP hD hS hA hl.1 (c_X0_kind l D cI cZ f (by omega)) (fun _ => rfl) gX0_needBefore_X0_kind rfl (by decide +kernel) rfl ⟨Nat.le_of_ble_eq_true rfl, Nat.le_of_ble_eq_true rfl⟩ [] rfl (by decide) rfl (Nat.le_of_ble_eq_true rfl) ⟨Nat.zero_le _, Nat.zero_le _⟩ dX0_needBefore_1 (fun r_1 u H locs hw_1 hP hD hS => ?_)
  by_cases e_1 : f % 6 = 0
  · rw [if_pos e_1] at hw_1
    obtain rfl : r_1 = nI 0 := hw_1
    refine lv_istore_n (lv' := [(1, .int (nI 0)), (0, .int (nI f))]) hx hb dX0_needBefore_4 rfl hl (by decide) rfl (fun ls hl => ?_)
    refine lv_iload_n hx hb dX0_needBefore_5 rfl (lv_at hl 0 rfl) ?_
    refine k_if_ne (tgt := 11) hx hb (by decide) dX0_needBefore_6 (by decide) (fun q => absurd q (by decide)) (fun _ => ?_)
    refine lv_iconst (v := (-1)) hx hb dX0_needBefore_9 (by decide) ?_
    exact k_iret (v := (-1)) hx hb hr hlk rfl () ((if_pos e_1).symm) hP hD hS dX0_needBefore_10
  · rw [if_neg e_1] at hw_1
    by_cases e_1_1 : f % 3 = 0
    · rw [if_pos e_1_1] at hw_1
      obtain rfl : r_1 = nI 1 := hw_1
      refine lv_istore_n (lv' := [(1, .int (nI 1)), (0, .int (nI f))]) hx hb dX0_needBefore_4 rfl hl (by decide) rfl (fun ls hl => ?_)
      refine lv_iload_n hx hb dX0_needBefore_5 rfl (lv_at hl 0 rfl) ?_
      refine k_if_ne (tgt := 11) hx hb (by decide) dX0_needBefore_6 (by decide) (fun _ => ?_) (fun q => absurd q (by decide))
      refine lv_iload_n hx hb dX0_needBefore_11 rfl (lv_at hl 0 rfl) ?_
      refine lv_iconst (v := nI 1) hx hb dX0_needBefore_12 (by decide) ?_
      refine k_icmp_ne (tgt := 22) hx hb (by decide) (by decide) dX0_needBefore_13 (by decide) (fun q => absurd q (by decide)) (fun _ => ?_)
      refine lv_iload_n hx hb dX0_needBefore_16 rfl (lv_at hl 1 rfl) ?_
      refine lv_iconst (v := nI 3) hx hb dX0_needBefore_17 (by decide) ?_
      refine k_isub hx hb (by omega) dX0_needBefore_18 ?_
      refine lv_goto (tgt := 27) hx hb dX0_needBefore_19 (by decide) ?_
      exact k_iret (v := nI (f - 3)) hx hb hr hlk rfl () (by rw [if_neg e_1, bef, if_pos e_1_1]) hP hD hS dX0_needBefore_27
    · rw [if_neg e_1_1] at hw_1
      obtain rfl : r_1 = nI 2 := hw_1
      refine lv_istore_n (lv' := [(1, .int (nI 2)), (0, .int (nI f))]) hx hb dX0_needBefore_4 rfl hl (by decide) rfl (fun ls hl => ?_)
      refine lv_iload_n hx hb dX0_needBefore_5 rfl (lv_at hl 0 rfl) ?_
      refine k_if_ne (tgt := 11) hx hb (by decide) dX0_needBefore_6 (by decide) (fun _ => ?_) (fun q => absurd q (by decide))
      refine lv_iload_n hx hb dX0_needBefore_11 rfl (lv_at hl 0 rfl) ?_
      refine lv_iconst (v := nI 1) hx hb dX0_needBefore_12 (by decide) ?_
      refine k_icmp_ne (tgt := 22) hx hb (by decide) (by decide) dX0_needBefore_13 (by decide) (fun _ => ?_) (fun q => absurd q (by decide))
      refine lv_iload_n hx hb dX0_needBefore_22 rfl (lv_at hl 1 rfl) ?_
      refine lv_iload_n hx hb dX0_needBefore_23 rfl (lv_at hl 1 rfl) ?_
      refine lv_iconst (v := nI 3) hx hb dX0_needBefore_24 (by decide) ?_
      refine k_irem hx hb (by omega) (by decide) (by decide) dX0_needBefore_25 ?_
      refine k_isub hx hb (by omega) dX0_needBefore_26 ?_
      exact k_iret (v := nI (f - (f % 3))) hx hb hr hlk rfl () (by rw [if_neg e_1, bef, if_neg e_1_1]) hP hD hS dX0_needBefore_27
set_option maxHeartbeats 4000000 in
set_option maxRecDepth 100000 in
theorem c_X0_needBehind (l : Launch) (D : va_G) (cI cZ : ClassId) (f : Nat) (hf : f < 100) : kMi l yX0_needBehind wsX0_needBehind 1 20 D (TY cI cZ) [.int (nI f)] [] (fun (r : Int32) (_ : Unit) => r = (if f % 3 = 0 then (-1) else nI (beh f))) (fun (_ : Unit) => ([] : va_W)) := by
  intro sz
  refine k_in (Qc := fun A => va_Qi (fun (r : Int32) (_ : Unit) => r = (if f % 3 = 0 then (-1) else nI (beh f))) (kB D A (fun (_ : Unit) => ([] : va_W))) A) (cc := cX0_needBehind) (maxL := 1) (ret := (some .int)) (by decide) rfl (Nat.le_of_ble_eq_true rfl) ?_
  intro p e s m below meth c A ls hfix hr hlk hN hP hK hD hA hS hl
  have hfix : CallFix p m c cX0_needBehind 1 s [.int (nI f)].toArray wsX0_needBehind RX0 := hfix
  have hl : lv_has ls 1 [(0, .int (nI f))] := hl
  obtain ⟨hx, hb, hml, hown, hts⟩ := id hfix
  have hP : va_P D vwCl [] s.heap := hP
  have hD : va_D A [] := hD
  have hS : ∃ (H : Heap) (locs : List Loc), H = s.heap ∧ locs = [] ∧ va_S A s.heap H locs := ⟨_, _, rfl, rfl, hS⟩
  obtain ⟨H, locs, hH, hlocs, hS⟩ := hS
  rw [← hH] at hP
  suffices hW9 : W p l e ({ frames := 1, cells := 0, slots := 0, locals := 20 } : Room) s m [.int (nI f)].toArray below meth c H locs 0 0 (MQ below (va_Qi (fun (r : Int32) (_ : Unit) => r = (if f % 3 = 0 then (-1) else nI (beh f))) (kB D A (fun (_ : Unit) => ([] : va_W))) A) [.int (nI f)].toArray s 0 0 A) (F0 m 0 ls []) by rw [hH, hlocs] at hW9; exact hW9
  clear hH hlocs
  refine lv_iload_n hx hb dX0_needBehind_0 rfl (lv_at hl 0 rfl) ?_
  refine k_callSi (n := 1) (As := [.int (nI f)]) (rest := []) hfix hN hK hP hD hS hA hl.1 (c_X0_kind l D cI cZ f (by omega)) (fun _ => rfl) gX0_needBehind_X0_kind rfl (by decide +kernel) rfl ⟨Nat.le_of_ble_eq_true rfl, Nat.le_of_ble_eq_true rfl⟩ [] rfl (by decide) rfl (Nat.le_of_ble_eq_true rfl) ⟨Nat.zero_le _, Nat.zero_le _⟩ dX0_needBehind_1 (fun r_1 u H locs hw_1 hP hD hS => ?_)
  by_cases e_1 : f % 6 = 0
  · rw [if_pos e_1] at hw_1
    obtain rfl : r_1 = nI 0 := hw_1
    refine lv_iconst (v := nI 2) hx hb dX0_needBehind_4 (by decide) ?_
    refine k_icmp_ne (tgt := 18) hx hb (by decide) (by decide) dX0_needBehind_5 (by decide) (fun _ => ?_) (fun q => absurd q (by decide))
    refine lv_iconst (v := (-1)) hx hb dX0_needBehind_18 (by decide) ?_
    exact k_iret (v := (-1)) hx hb hr hlk rfl () (by rw [if_pos (by omega)]) hP hD hS dX0_needBehind_19
  · rw [if_neg e_1] at hw_1
    by_cases e_1_1 : f % 3 = 0
    · rw [if_pos e_1_1] at hw_1
      obtain rfl : r_1 = nI 1 := hw_1
      refine lv_iconst (v := nI 2) hx hb dX0_needBehind_4 (by decide) ?_
      refine k_icmp_ne (tgt := 18) hx hb (by decide) (by decide) dX0_needBehind_5 (by decide) (fun _ => ?_) (fun q => absurd q (by decide))
      refine lv_iconst (v := (-1)) hx hb dX0_needBehind_18 (by decide) ?_
      exact k_iret (v := (-1)) hx hb hr hlk rfl () (by rw [if_pos (by omega)]) hP hD hS dX0_needBehind_19
    · rw [if_neg e_1_1] at hw_1
      obtain rfl : r_1 = nI 2 := hw_1
      refine lv_iconst (v := nI 2) hx hb dX0_needBehind_4 (by decide) ?_
      refine k_icmp_ne (tgt := 18) hx hb (by decide) (by decide) dX0_needBehind_5 (by decide) (fun q => absurd q (by decide)) (fun _ => ?_)
      refine lv_iload_n hx hb dX0_needBehind_8 rfl (lv_at hl 0 rfl) ?_
      refine lv_iload_n hx hb dX0_needBehind_9 rfl (lv_at hl 0 rfl) ?_
      refine lv_iconst (v := nI 3) hx hb dX0_needBehind_10 (by decide) ?_
      refine k_irem hx hb (by omega) (by decide) (by decide) dX0_needBehind_11 ?_
      refine k_isub hx hb (by omega) dX0_needBehind_12 ?_
      refine lv_iconst (v := nI 3) hx hb dX0_needBehind_13 (by decide) ?_
      refine k_iadd hx hb dX0_needBehind_14 ?_
      refine lv_goto (tgt := 19) hx hb dX0_needBehind_15 (by decide) ?_
      exact k_iret (v := nI ((f - (f % 3)) + 3)) hx hb hr hlk rfl () (by rw [if_neg (by omega), beh]) hP hD hS dX0_needBehind_19