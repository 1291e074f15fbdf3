/-! constructors -/
set_option maxHeartbeats 4000000 in
set_option maxRecDepth 100000 in
theorem c_X1_init (l : Launch) (D : va_G) (cI cZ : ClassId) (h0 : Nat) : kMn l yX1_init wsX1_init 1 12 2 64 D (TY cI cZ) [.ref h0] [(h0, .inr (1, [.null, .null, .int (nI 0), .int (nI 0), .int (nI 0), .int (nI 0), .int (nI 0), .int (nI 0), .int (nI 0)]))] (fun (u : (Nat × Nat)) => True) (fun (u : (Nat × Nat)) => [(h0, .inr (1, [.ref u.1, .ref u.2, .int (nI 0), .int (nI 16), .int (nI 4), .int (nI 3), .int (nI 8), .int (nI 0), .int (nI 0)])), (u.1, .inl (cI, 32, .inl (fun _ => 0))), (u.2, .inl (cI, 32, .inl (fun _ => 0)))]) := by
  intro sz
  refine k_inn (Qc := fun A => va_Qv (fun (u : (Nat × Nat)) => True) (kB D A (fun (u : (Nat × Nat)) => [(h0, .inr (1, [.ref u.1, .ref u.2, .int (nI 0), .int (nI 16), .int (nI 4), .int (nI 3), .int (nI 8), .int (nI 0), .int (nI 0)])), (u.1, .inl (cI, 32, .inl (fun _ => 0))), (u.2, .inl (cI, 32, .inl (fun _ => 0)))])) A) (cc := cX1_init) (maxL := 1) (ret := none) (by decide) rfl (Nat.le_of_ble_eq_true rfl) ?_
  intro p e s m below meth c A ls hfix hr hlk hinit hN hP hK hD hA hS hl
  have hfix : CallFix p m c cX1_init 1 s [.ref h0].toArray wsX1_init RX1 := hfix
  have hl : lv_has ls 1 [(0, .ref h0)] := hl
  obtain ⟨hx, hb, hml, hown, hts⟩ := id hfix
  have hinX1 : ∀ w ∈ wsX10, w ∈ wsX1_init := fun _ h => List.mem_cons_of_mem _ (List.mem_append_right _ h)
  have hP : va_P D vwCl [(h0, .inr (1, [.null, .null, .int (nI 0), .int (nI 0), .int (nI 0), .int (nI 0), .int (nI 0), .int (nI 0), .int (nI 0)]))] s.heap := hP
  have hD : va_D A [(h0, .inr (1, [.null, .null, .int (nI 0), .int (nI 0), .int (nI 0), .int (nI 0), .int (nI 0), .int (nI 0), .int (nI 0)]))] := hD
  have hS : ∃ (H : Heap) (locs : List Loc), H = s.heap ∧ locs = [] ∧ va_S A s.heap H locs := ⟨_, _, rfl, rfl, hS⟩
  obtain ⟨H, locs, hH, hlocs, hS⟩ := hS
  rw [← hH] at hP
  suffices hW9 : W p l e ({ frames := 1, cells := 2, slots := 64, locals := 12 } : Room) s m [.ref h0].toArray below meth c H locs 0 0 (MQ below (va_Qv (fun (u : (Nat × Nat)) => True) (kB D A (fun (u : (Nat × Nat)) => [(h0, .inr (1, [.ref u.1, .ref u.2, .int (nI 0), .int (nI 16), .int (nI 4), .int (nI 3), .int (nI 8), .int (nI 0), .int (nI 0)])), (u.1, .inl (cI, 32, .inl (fun _ => 0))), (u.2, .inl (cI, 32, .inl (fun _ => 0)))])) A) [.ref h0].toArray s 2 64 A) (F0 m 0 ls []) by rw [hH, hlocs] at hW9; exact hW9
  clear hH hlocs
  refine lv_aload_n hx hb dX1_init_0 rfl (lv_at hl 0 rfl) ?_
  refine W.objInit hx hb hown (hts _ (List.mem_of_getElem? (i := 1) rfl)) (hts _ (List.mem_of_getElem? (i := 2) rfl)) (hts _ (List.mem_of_getElem? (i := 3) rfl)) rfl (by rw [hml]; exact hl.1) rfl dX1_init_1 (Nat.le_of_ble_eq_true rfl) (Nat.le_of_ble_eq_true rfl) ?_
  refine W.eq (g2 := F0 m 4 ls []) rfl ?_
  refine lv_aload_n hx hb dX1_init_4 rfl (lv_at hl 0 rfl) ?_
  refine lv_bipush (v := nI 32) hx hb dX1_init_5 (by decide) ?_
  refine k_newaI hx hb (hts _ (List.mem_of_getElem? (i := 4) rfl)) hK rfl hP hD hS hA (by decide) (Nat.le_of_ble_eq_true rfl) (Nat.le_of_ble_eq_true rfl) dX1_init_7 (fun q1 H hP hD hS => ?_)
  have hP : va_P D vwCl [(h0, .inr (1, [.null, .null, .int (nI 0), .int (nI 0), .int (nI 0), .int (nI 0), .int (nI 0), .int (nI 0), .int (nI 0)])), (q1, .inl (cI, 32, .inl (fun _ => 0)))] H := hP
  have hD : va_D A [(h0, .inr (1, [.null, .null, .int (nI 0), .int (nI 0), .int (nI 0), .int (nI 0), .int (nI 0), .int (nI 0), .int (nI 0)])), (q1, .inl (cI, 32, .inl (fun _ => 0)))] := hD
  refine va_putF (D := D) (ci := 1) (v := .ref q1) (ty := (.array .int)) (C := RX1) (T := TX1) (N := 9) hx hb hts hinX1 tyX1 tyX1_ok nmX1 hown hK hP hD hS 0 rfl rfl 0 (by decide) (hts _ (List.mem_of_getElem? (i := 5) rfl)) (fun _ h9 => h9) rfl hinit rfl (by decide +kernel) rfl rfl (Nat.le_of_ble_eq_true rfl) dX1_init_9 (fun H locs hP hD hS => ?_)
  have hP : va_P D vwCl [(h0, .inr (1, [.ref q1, .null, .int (nI 0), .int (nI 0), .int (nI 0), .int (nI 0), .int (nI 0), .int (nI 0), .int (nI 0)])), (q1, .inl (cI, 32, .inl (fun _ => 0)))] H := hP
  have hD : va_D A [(h0, .inr (1, [.ref q1, .null, .int (nI 0), .int (nI 0), .int (nI 0), .int (nI 0), .int (nI 0), .int (nI 0), .int (nI 0)])), (q1, .inl (cI, 32, .inl (fun _ => 0)))] := hD
  refine lv_aload_n hx hb dX1_init_12 rfl (lv_at hl 0 rfl) ?_
  refine lv_bipush (v := nI 32) hx hb dX1_init_13 (by decide) ?_
  refine k_newaI hx hb (hts _ (List.mem_of_getElem? (i := 4) rfl)) hK rfl hP hD hS hA (by decide) (Nat.le_of_ble_eq_true rfl) (Nat.le_of_ble_eq_true rfl) dX1_init_15 (fun q2 H hP hD hS => ?_)
  have hP : va_P D vwCl [(h0, .inr (1, [.ref q1, .null, .int (nI 0), .int (nI 0), .int (nI 0), .int (nI 0), .int (nI 0), .int (nI 0), .int (nI 0)])), (q1, .inl (cI, 32, .inl (fun _ => 0))), (q2, .inl (cI, 32, .inl (fun _ => 0)))] H := hP
  have hD : va_D A [(h0, .inr (1, [.ref q1, .null, .int (nI 0), .int (nI 0), .int (nI 0), .int (nI 0), .int (nI 0), .int (nI 0), .int (nI 0)])), (q1, .inl (cI, 32, .inl (fun _ => 0))), (q2, .inl (cI, 32, .inl (fun _ => 0)))] := hD
  refine va_putF (D := D) (ci := 1) (v := .ref q2) (ty := (.array .int)) (C := RX1) (T := TX1) (N := 9) hx hb hts hinX1 tyX1 tyX1_ok nmX1 hown hK hP hD hS 0 rfl rfl 1 (by decide) (hts _ (List.mem_of_getElem? (i := 6) rfl)) (fun _ h9 => h9) rfl hinit rfl (by decide +kernel) rfl rfl (Nat.le_of_ble_eq_true rfl) dX1_init_17 (fun H locs hP hD hS => ?_)
  have hP : va_P D vwCl [(h0, .inr (1, [.ref q1, .ref q2, .int (nI 0), .int (nI 0), .int (nI 0), .int (nI 0), .int (nI 0), .int (nI 0), .int (nI 0)])), (q1, .inl (cI, 32, .inl (fun _ => 0))), (q2, .inl (cI, 32, .inl (fun _ => 0)))] H := hP
  have hD : va_D A [(h0, .inr (1, [.ref q1, .ref q2, .int (nI 0), .int (nI 0), .int (nI 0), .int (nI 0), .int (nI 0), .int (nI 0), .int (nI 0)])), (q1, .inl (cI, 32, .inl (fun _ => 0))), (q2, .inl (cI, 32, .inl (fun _ => 0)))] := hD
  refine lv_aload_n hx hb dX1_init_20 rfl (lv_at hl 0 rfl) ?_
  refine lv_iconst (v := nI 0) hx hb dX1_init_21 (by decide) ?_
  refine va_put (D := D) (ci := 1) (v := .int (nI 0)) (ty := .int) (C := RX1) (T := TX1) (N := 9) hx hb hts hinX1 tyX1 tyX1_ok nmX1 hown hK hP hD hS 0 rfl rfl 2 (by decide) (hts _ (List.mem_of_getElem? (i := 7) rfl)) (fun _ h9 => h9) rfl (by decide +kernel) rfl rfl (Nat.le_of_ble_eq_true rfl) dX1_init_22 (fun H locs hP hD hS => ?_)
  have hP : va_P D vwCl [(h0, .inr (1, [.ref q1, .ref q2, .int (nI 0), .int (nI 0), .int (nI 0), .int (nI 0), .int (nI 0), .int (nI 0), .int (nI 0)])), (q1, .inl (cI, 32, .inl (fun _ => 0))), (q2, .inl (cI, 32, .inl (fun _ => 0)))] H := hP
  have hD : va_D A [(h0, .inr (1, [.ref q1, .ref q2, .int (nI 0), .int (nI 0), .int (nI 0), .int (nI 0), .int (nI 0), .int (nI 0), .int (nI 0)])), (q1, .inl (cI, 32, .inl (fun _ => 0))), (q2, .inl (cI, 32, .inl (fun _ => 0)))] := hD
  refine lv_aload_n hx hb dX1_init_25 rfl (lv_at hl 0 rfl) ?_
  refine lv_bipush (v := nI 16) hx hb dX1_init_26 (by decide) ?_
  refine va_put (D := D) (ci := 1) (v := .int (nI 16)) (ty := .int) (C := RX1) (T := TX1) (N := 9) hx hb hts hinX1 tyX1 tyX1_ok nmX1 hown hK hP hD hS 0 rfl rfl 3 (by decide) (hts _ (List.mem_of_getElem? (i := 8) rfl)) (fun _ h9 => h9) rfl (by decide +kernel) rfl rfl (Nat.le_of_ble_eq_true rfl) dX1_init_28 (fun H locs hP hD hS => ?_)
  have hP : va_P D vwCl [(h0, .inr (1, [.ref q1, .ref q2, .int (nI 0), .int (nI 16), .int (nI 0), .int (nI 0), .int (nI 0), .int (nI 0), .int (nI 0)])), (q1, .inl (cI, 32, .inl (fun _ => 0))), (q2, .inl (cI, 32, .inl (fun _ => 0)))] H := hP
  have hD : va_D A [(h0, .inr (1, [.ref q1, .ref q2, .int (nI 0), .int (nI 16), .int (nI 0), .int (nI 0), .int (nI 0), .int (nI 0), .int (nI 0)])), (q1, .inl (cI, 32, .inl (fun _ => 0))), (q2, .inl (cI, 32, .inl (fun _ => 0)))] := hD
  refine lv_aload_n hx hb dX1_init_31 rfl (lv_at hl 0 rfl) ?_
  refine lv_iconst (v := nI 4) hx hb dX1_init_32 (by decide) ?_
  refine va_put (D := D) (ci := 1) (v := .int (nI 4)) (ty := .int) (C := RX1) (T := TX1) (N := 9) hx hb hts hinX1 tyX1 tyX1_ok nmX1 hown hK hP hD hS 0 rfl rfl 4 (by decide) (hts _ (List.mem_of_getElem? (i := 9) rfl)) (fun _ h9 => h9) rfl (by decide +kernel) rfl rfl (Nat.le_of_ble_eq_true rfl) dX1_init_33 (fun H locs hP hD hS => ?_)
  have hP : va_P D vwCl [(h0, .inr (1, [.ref q1, .ref q2, .int (nI 0), .int (nI 16), .int (nI 4), .int (nI 0), .int (nI 0), .int (nI 0), .int (nI 0)])), (q1, .inl (cI, 32, .inl (fun _ => 0))), (q2, .inl (cI, 32, .inl (fun _ => 0)))] H := hP
  have hD : va_D A [(h0, .inr (1, [.ref q1, .ref q2, .int (nI 0), .int (nI 16), .int (nI 4), .int (nI 0), .int (nI 0), .int (nI 0), .int (nI 0)])), (q1, .inl (cI, 32, .inl (fun _ => 0))), (q2, .inl (cI, 32, .inl (fun _ => 0)))] := hD
  refine lv_aload_n hx hb dX1_init_36 rfl (lv_at hl 0 rfl) ?_
  refine lv_iconst (v := nI 3) hx hb dX1_init_37 (by decide) ?_
  refine va_put (D := D) (ci := 1) (v := .int (nI 3)) (ty := .int) (C := RX1) (T := TX1) (N := 9) hx hb hts hinX1 tyX1 tyX1_ok nmX1 hown hK hP hD hS 0 rfl rfl 5 (by decide) (hts _ (List.mem_of_getElem? (i := 10) rfl)) (fun _ h9 => h9) rfl (by decide +kernel) rfl rfl (Nat.le_of_ble_eq_true rfl) dX1_init_38 (fun H locs hP hD hS => ?_)
  have hP : va_P D vwCl [(h0, .inr (1, [.ref q1, .ref q2, .int (nI 0), .int (nI 16), .int (nI 4), .int (nI 3), .int (nI 0), .int (nI 0), .int (nI 0)])), (q1, .inl (cI, 32, .inl (fun _ => 0))), (q2, .inl (cI, 32, .inl (fun _ => 0)))] H := hP
  have hD : va_D A [(h0, .inr (1, [.ref q1, .ref q2, .int (nI 0), .int (nI 16), .int (nI 4), .int (nI 3), .int (nI 0), .int (nI 0), .int (nI 0)])), (q1, .inl (cI, 32, .inl (fun _ => 0))), (q2, .inl (cI, 32, .inl (fun _ => 0)))] := hD
  refine lv_aload_n hx hb dX1_init_41 rfl (lv_at hl 0 rfl) ?_
  refine lv_bipush (v := nI 8) hx hb dX1_init_42 (by decide) ?_
  refine va_put (D := D) (ci := 1) (v := .int (nI 8)) (ty := .int) (C := RX1) (T := TX1) (N := 9) hx hb hts hinX1 tyX1 tyX1_ok nmX1 hown hK hP hD hS 0 rfl rfl 6 (by decide) (hts _ (List.mem_of_getElem? (i := 11) rfl)) (fun _ h9 => h9) rfl (by decide +kernel) rfl rfl (Nat.le_of_ble_eq_true rfl) dX1_init_44 (fun H locs hP hD hS => ?_)
  have hP : va_P D vwCl [(h0, .inr (1, [.ref q1, .ref q2, .int (nI 0), .int (nI 16), .int (nI 4), .int (nI 3), .int (nI 8), .int (nI 0), .int (nI 0)])), (q1, .inl (cI, 32, .inl (fun _ => 0))), (q2, .inl (cI, 32, .inl (fun _ => 0)))] H := hP
  have hD : va_D A [(h0, .inr (1, [.ref q1, .ref q2, .int (nI 0), .int (nI 16), .int (nI 4), .int (nI 3), .int (nI 8), .int (nI 0), .int (nI 0)])), (q1, .inl (cI, 32, .inl (fun _ => 0))), (q2, .inl (cI, 32, .inl (fun _ => 0)))] := hD
  refine lv_aload_n hx hb dX1_init_47 rfl (lv_at hl 0 rfl) ?_
  refine lv_iconst (v := nI 0) hx hb dX1_init_48 (by decide) ?_
  refine va_put (D := D) (ci := 1) (v := .int (nI 0)) (ty := .boolean) (C := RX1) (T := TX1) (N := 9) hx hb hts hinX1 tyX1 tyX1_ok nmX1 hown hK hP hD hS 0 rfl rfl 7 (by decide) (hts _ (List.mem_of_getElem? (i := 12) rfl)) (fun _ h9 => h9) rfl (by decide +kernel) (by decide) rfl (Nat.le_of_ble_eq_true rfl) dX1_init_49 (fun H locs hP hD hS => ?_)
  have hP : va_P D vwCl [(h0, .inr (1, [.ref q1, .ref q2, .int (nI 0), .int (nI 16), .int (nI 4), .int (nI 3), .int (nI 8), .int (nI 0), .int (nI 0)])), (q1, .inl (cI, 32, .inl (fun _ => 0))), (q2, .inl (cI, 32, .inl (fun _ => 0)))] H := hP
  have hD : va_D A [(h0, .inr (1, [.ref q1, .ref q2, .int (nI 0), .int (nI 16), .int (nI 4), .int (nI 3), .int (nI 8), .int (nI 0), .int (nI 0)])), (q1, .inl (cI, 32, .inl (fun _ => 0))), (q2, .inl (cI, 32, .inl (fun _ => 0)))] := hD
  refine lv_aload_n hx hb dX1_init_52 rfl (lv_at hl 0 rfl) ?_
  refine lv_iconst (v := nI 0) hx hb dX1_init_53 (by decide) ?_
  refine va_put (D := D) (ci := 1) (v := .int (nI 0)) (ty := .int) (C := RX1) (T := TX1) (N := 9) hx hb hts hinX1 tyX1 tyX1_ok nmX1 hown hK hP hD hS 0 rfl rfl 8 (by decide) (hts _ (List.mem_of_getElem? (i := 13) rfl)) (fun _ h9 => h9) rfl (by decide +kernel) rfl rfl (Nat.le_of_ble_eq_true rfl) dX1_init_54 (fun H locs hP hD hS => ?_)
  have hP : va_P D vwCl [(h0, .inr (1, [.ref q1, .ref q2, .int (nI 0), .int (nI 16), .int (nI 4), .int (nI 3), .int (nI 8), .int (nI 0), .int (nI 0)])), (q1, .inl (cI, 32, .inl (fun _ => 0))), (q2, .inl (cI, 32, .inl (fun _ => 0)))] H := hP
  have hD : va_D A [(h0, .inr (1, [.ref q1, .ref q2, .int (nI 0), .int (nI 16), .int (nI 4), .int (nI 3), .int (nI 8), .int (nI 0), .int (nI 0)])), (q1, .inl (cI, 32, .inl (fun _ => 0))), (q2, .inl (cI, 32, .inl (fun _ => 0)))] := hD
  exact k_vret hx hb hr hlk (q1, q2) trivial hP hD hS dX1_init_57
set_option maxHeartbeats 4000000 in
set_option maxRecDepth 100000 in
theorem c_X2_init (l : Launch) (D : va_G) (cI cZ : ClassId) (h0 : Nat) : kMn l yX2_init wsX2_init 1 12 2 600 D (TY cI cZ) [.ref h0] [(h0, .inr (2, [.null, .null, .int (nI 0), .int (nI 0), .int (nI 0)]))] (fun (u : (Nat × Nat)) => True) (fun (u : (Nat × Nat)) => [(h0, .inr (2, [.ref u.1, .ref u.2, .int (nI 0), .int (nI 0 - 1), .int (nI 0)])), (u.1, .inl (cZ, 300, .inl (fun _ => 0))), (u.2, .inl (cI, 300, .inl (fun _ => 0)))]) := by
  intro sz
  refine k_inn (Qc := fun A => va_Qv (fun (u : (Nat × Nat)) => True) (kB D A (fun (u : (Nat × Nat)) => [(h0, .inr (2, [.ref u.1, .ref u.2, .int (nI 0), .int (nI 0 - 1), .int (nI 0)])), (u.1, .inl (cZ, 300, .inl (fun _ => 0))), (u.2, .inl (cI, 300, .inl (fun _ => 0)))])) A) (cc := cX2_init) (maxL := 1) (ret := none) (by decide) rfl (Nat.le_of_ble_eq_true rfl) ?_
  intro p e s m below meth c A ls hfix hr hlk hinit hN hP hK hD hA hS hl
  have hfix : CallFix p m c cX2_init 1 s [.ref h0].toArray wsX2_init RX2 := hfix
  have hl : lv_has ls 1 [(0, .ref h0)] := hl
  obtain ⟨hx, hb, hml, hown, hts⟩ := id hfix
  have hinX2 : ∀ w ∈ wsX20, w ∈ wsX2_init := fun _ h => List.mem_cons_of_mem _ (List.mem_append_right _ h)
  have hP : va_P D vwCl [(h0, .inr (2, [.null, .null, .int (nI 0), .int (nI 0), .int (nI 0)]))] s.heap := hP
  have hD : va_D A [(h0, .inr (2, [.null, .null, .int (nI 0), .int (nI 0), .int (nI 0)]))] := hD
  have hS : ∃ (H : Heap) (locs : List Loc), H = s.heap ∧ locs = [] ∧ va_S A s.heap H locs := ⟨_, _, rfl, rfl, hS⟩
  obtain ⟨H, locs, hH, hlocs, hS⟩ := hS
  rw [← hH] at hP
  suffices hW9 : W p l e ({ frames := 1, cells := 2, slots := 600, locals := 12 } : Room) s m [.ref h0].toArray below meth c H locs 0 0 (MQ below (va_Qv (fun (u : (Nat × Nat)) => True) (kB D A (fun (u : (Nat × Nat)) => [(h0, .inr (2, [.ref u.1, .ref u.2, .int (nI 0), .int (nI 0 - 1), .int (nI 0)])), (u.1, .inl (cZ, 300, .inl (fun _ => 0))), (u.2, .inl (cI, 300, .inl (fun _ => 0)))])) A) [.ref h0].toArray s 2 600 A) (F0 m 0 ls []) by rw [hH, hlocs] at hW9; exact hW9
  clear hH hlocs
  refine lv_aload_n hx hb dX2_init_0 rfl (lv_at hl 0 rfl) ?_
  refine W.objInit hx hb hown (hts _ (List.mem_of_getElem? (i := 1) rfl)) (hts _ (List.mem_of_getElem? (i := 2) rfl)) (hts _ (List.mem_of_getElem? (i := 3) rfl)) rfl (by rw [hml]; exact hl.1) rfl dX2_init_1 (Nat.le_of_ble_eq_true rfl) (Nat.le_of_ble_eq_true rfl) ?_
  refine W.eq (g2 := F0 m 4 ls []) rfl ?_
  refine lv_aload_n hx hb dX2_init_4 rfl (lv_at hl 0 rfl) ?_
  refine lv_sipush (v := nI 300) hx hb dX2_init_5 (by decide) ?_
  refine k_newaZ hx hb (hts _ (List.mem_of_getElem? (i := 4) rfl)) hK rfl hP hD hS hA (by decide) (Nat.le_of_ble_eq_true rfl) (Nat.le_of_ble_eq_true rfl) dX2_init_8 (fun q1 H hP hD hS => ?_)
  have hP : va_P D vwCl [(h0, .inr (2, [.null, .null, .int (nI 0), .int (nI 0), .int (nI 0)])), (q1, .inl (cZ, 300, .inl (fun _ => 0)))] H := hP
  have hD : va_D A [(h0, .inr (2, [.null, .null, .int (nI 0), .int (nI 0), .int (nI 0)])), (q1, .inl (cZ, 300, .inl (fun _ => 0)))] := hD
  refine va_putF (D := D) (ci := 2) (v := .ref q1) (ty := (.array .boolean)) (C := RX2) (T := TX2) (N := 5) hx hb hts hinX2 tyX2 tyX2_ok nmX2 hown hK hP hD hS 0 rfl rfl 0 (by decide) (hts _ (List.mem_of_getElem? (i := 5) rfl)) (fun _ h9 => h9) rfl hinit rfl (by decide +kernel) rfl rfl (Nat.le_of_ble_eq_true rfl) dX2_init_10 (fun H locs hP hD hS => ?_)
  have hP : va_P D vwCl [(h0, .inr (2, [.ref q1, .null, .int (nI 0), .int (nI 0), .int (nI 0)])), (q1, .inl (cZ, 300, .inl (fun _ => 0)))] H := hP
  have hD : va_D A [(h0, .inr (2, [.ref q1, .null, .int (nI 0), .int (nI 0), .int (nI 0)])), (q1, .inl (cZ, 300, .inl (fun _ => 0)))] := hD
  refine lv_aload_n hx hb dX2_init_13 rfl (lv_at hl 0 rfl) ?_
  refine lv_sipush (v := nI 300) hx hb dX2_init_14 (by decide) ?_
  refine k_newaI hx hb (hts _ (List.mem_of_getElem? (i := 6) rfl)) hK rfl hP hD hS hA (by decide) (Nat.le_of_ble_eq_true rfl) (Nat.le_of_ble_eq_true rfl) dX2_init_17 (fun q2 H hP hD hS => ?_)
  have hP : va_P D vwCl [(h0, .inr (2, [.ref q1, .null, .int (nI 0), .int (nI 0), .int (nI 0)])), (q1, .inl (cZ, 300, .inl (fun _ => 0))), (q2, .inl (cI, 300, .inl (fun _ => 0)))] H := hP
  have hD : va_D A [(h0, .inr (2, [.ref q1, .null, .int (nI 0), .int (nI 0), .int (nI 0)])), (q1, .inl (cZ, 300, .inl (fun _ => 0))), (q2, .inl (cI, 300, .inl (fun _ => 0)))] := hD
  refine va_putF (D := D) (ci := 2) (v := .ref q2) (ty := (.array .int)) (C := RX2) (T := TX2) (N := 5) hx hb hts hinX2 tyX2 tyX2_ok nmX2 hown hK hP hD hS 0 rfl rfl 1 (by decide) (hts _ (List.mem_of_getElem? (i := 7) rfl)) (fun _ h9 => h9) rfl hinit rfl (by decide +kernel) rfl rfl (Nat.le_of_ble_eq_true rfl) dX2_init_19 (fun H locs hP hD hS => ?_)
  have hP : va_P D vwCl [(h0, .inr (2, [.ref q1, .ref q2, .int (nI 0), .int (nI 0), .int (nI 0)])), (q1, .inl (cZ, 300, .inl (fun _ => 0))), (q2, .inl (cI, 300, .inl (fun _ => 0)))] H := hP
  have hD : va_D A [(h0, .inr (2, [.ref q1, .ref q2, .int (nI 0), .int (nI 0), .int (nI 0)])), (q1, .inl (cZ, 300, .inl (fun _ => 0))), (q2, .inl (cI, 300, .inl (fun _ => 0)))] := hD
  refine lv_aload_n hx hb dX2_init_22 rfl (lv_at hl 0 rfl) ?_
  refine lv_iconst (v := nI 0) hx hb dX2_init_23 (by decide) ?_
  refine va_put (D := D) (ci := 2) (v := .int (nI 0)) (ty := .int) (C := RX2) (T := TX2) (N := 5) hx hb hts hinX2 tyX2 tyX2_ok nmX2 hown hK hP hD hS 0 rfl rfl 2 (by decide) (hts _ (List.mem_of_getElem? (i := 8) rfl)) (fun _ h9 => h9) rfl (by decide +kernel) rfl rfl (Nat.le_of_ble_eq_true rfl) dX2_init_24 (fun H locs hP hD hS => ?_)
  have hP : va_P D vwCl [(h0, .inr (2, [.ref q1, .ref q2, .int (nI 0), .int (nI 0), .int (nI 0)])), (q1, .inl (cZ, 300, .inl (fun _ => 0))), (q2, .inl (cI, 300, .inl (fun _ => 0)))] H := hP
  have hD : va_D A [(h0, .inr (2, [.ref q1, .ref q2, .int (nI 0), .int (nI 0), .int (nI 0)])), (q1, .inl (cZ, 300, .inl (fun _ => 0))), (q2, .inl (cI, 300, .inl (fun _ => 0)))] := hD
  refine lv_aload_n hx hb dX2_init_27 rfl (lv_at hl 0 rfl) ?_
  refine lv_iconst (v := (nI 0 - 1)) hx hb dX2_init_28 (by decide) ?_
  refine va_put (D := D) (ci := 2) (v := .int (nI 0 - 1)) (ty := .int) (C := RX2) (T := TX2) (N := 5) hx hb hts hinX2 tyX2 tyX2_ok nmX2 hown hK hP hD hS 0 rfl rfl 3 (by decide) (hts _ (List.mem_of_getElem? (i := 9) rfl)) (fun _ h9 => h9) rfl (by decide +kernel) rfl rfl (Nat.le_of_ble_eq_true rfl) dX2_init_29 (fun H locs hP hD hS => ?_)
  have hP : va_P D vwCl [(h0, .inr (2, [.ref q1, .ref q2, .int (nI 0), .int (nI 0 - 1), .int (nI 0)])), (q1, .inl (cZ, 300, .inl (fun _ => 0))), (q2, .inl (cI, 300, .inl (fun _ => 0)))] H := hP
  have hD : va_D A [(h0, .inr (2, [.ref q1, .ref q2, .int (nI 0), .int (nI 0 - 1), .int (nI 0)])), (q1, .inl (cZ, 300, .inl (fun _ => 0))), (q2, .inl (cI, 300, .inl (fun _ => 0)))] := hD
  refine lv_aload_n hx hb dX2_init_32 rfl (lv_at hl 0 rfl) ?_
  refine lv_iconst (v := nI 0) hx hb dX2_init_33 (by decide) ?_
  refine va_put (D := D) (ci := 2) (v := .int (nI 0)) (ty := .int) (C := RX2) (T := TX2) (N := 5) hx hb hts hinX2 tyX2 tyX2_ok nmX2 hown hK hP hD hS 0 rfl rfl 4 (by decide) (hts _ (List.mem_of_getElem? (i := 10) rfl)) (fun _ h9 => h9) rfl (by decide +kernel) rfl rfl (Nat.le_of_ble_eq_true rfl) dX2_init_34 (fun H locs hP hD hS => ?_)
  have hP : va_P D vwCl [(h0, .inr (2, [.ref q1, .ref q2, .int (nI 0), .int (nI 0 - 1), .int (nI 0)])), (q1, .inl (cZ, 300, .inl (fun _ => 0))), (q2, .inl (cI, 300, .inl (fun _ => 0)))] H := hP
  have hD : va_D A [(h0, .inr (2, [.ref q1, .ref q2, .int (nI 0), .int (nI 0 - 1), .int (nI 0)])), (q1, .inl (cZ, 300, .inl (fun _ => 0))), (q2, .inl (cI, 300, .inl (fun _ => 0)))] := hD
  exact k_vret hx hb hr hlk (q1, q2) trivial hP hD hS dX2_init_37
set_option maxHeartbeats 4000000 in
set_option maxRecDepth 100000 in
theorem c_X0_init (l : Launch) (D : va_G) (cI cZ : ClassId) (h0 h1 : Nat) : kMn l yX0_init wsX0_init 1 12 1 100 D (TY cI cZ) [.ref h0, .ref h1] [(h0, .inr (0, [.null, .null, .int (nI 0), .int (nI 0), .int (nI 0), .int (nI 0)]))] (fun (u : Nat) => True) (fun (u : Nat) => [(h0, .inr (0, [.ref h1, .ref u, .int (nI 0), .int (-1), .int (-1), .int (nI 0)])), (u, .inl (cI, 100, .inl (fun _ => 0)))]) := by
  intro sz
  refine k_inn (Qc := fun A => va_Qv (fun (u : Nat) => True) (kB D A (fun (u : Nat) => [(h0, .inr (0, [.ref h1, .ref u, .int (nI 0), .int (-1), .int (-1), .int (nI 0)])), (u, .inl (cI, 100, .inl (fun _ => 0)))])) A) (cc := cX0_init) (maxL := 2) (ret := none) (by decide) rfl (Nat.le_of_ble_eq_true rfl) ?_
  intro p e s m below meth c A ls hfix hr hlk hinit hN hP hK hD hA hS hl
  have hfix : CallFix p m c cX0_init 2 s [.ref h0, .ref h1].toArray wsX0_init RX0 := hfix
  have hl : lv_has ls 2 [(0, .ref h0), (1, .ref h1)] := hl
  obtain ⟨hx, hb, hml, hown, hts⟩ := id hfix
  have hinX0 : ∀ w ∈ wsX00, w ∈ wsX0_init := fun _ h => List.mem_cons_of_mem _ (List.mem_append_right _ h)
  have hP : va_P D vwCl [(h0, .inr (0, [.null, .null, .int (nI 0), .int (nI 0), .int (nI 0), .int (nI 0)]))] s.heap := hP
  have hD : va_D A [(h0, .inr (0, [.null, .null, .int (nI 0), .int (nI 0), .int (nI 0), .int (nI 0)]))] := hD
  have hS : ∃ (H : Heap) (locs : List Loc), H = s.heap ∧ locs = [] ∧ va_S A s.heap H locs := ⟨_, _, rfl, rfl, hS⟩
  obtain ⟨H, locs, hH, hlocs, hS⟩ := hS
  rw [← hH] at hP
  suffices hW9 : W p l e ({ frames := 1, cells := 1, slots := 100, locals := 12 } : Room) s m [.ref h0, .ref h1].toArray below meth c H locs 0 0 (MQ below (va_Qv (fun (u : Nat) => True) (kB D A (fun (u : Nat) => [(h0, .inr (0, [.ref h1, .ref u, .int (nI 0), .int (-1), .int (-1), .int (nI 0)])), (u, .inl (cI, 100, .inl (fun _ => 0)))])) A) [.ref h0, .ref h1].toArray s 1 100 A) (F0 m 0 ls []) by rw [hH, hlocs] at hW9; exact hW9
  clear hH hlocs
  refine lv_aload_n hx hb dX0_init_0 rfl (lv_at hl 0 rfl) ?_
  refine W.objInit hx hb hown (hts _ (List.mem_of_getElem? (i := 1) rfl)) (hts _ (List.mem_of_getElem? (i := 2) rfl)) (hts _ (List.mem_of_getElem? (i := 3) rfl)) rfl (by rw [hml]; exact hl.1) rfl dX0_init_1 (Nat.le_of_ble_eq_true rfl) (Nat.le_of_ble_eq_true rfl) ?_
  refine W.eq (g2 := F0 m 4 ls []) rfl ?_
  refine lv_aload_n hx hb dX0_init_4 rfl (lv_at hl 0 rfl) ?_
  refine lv_bipush (v := nI 100) hx hb dX0_init_5 (by decide) ?_
  refine k_newaI hx hb (hts _ (List.mem_of_getElem? (i := 4) rfl)) hK rfl hP hD hS hA (by decide) (Nat.le_of_ble_eq_true rfl) (Nat.le_of_ble_eq_true rfl) dX0_init_7 (fun q1 H hP hD hS => ?_)
  have hP : va_P D vwCl [(h0, .inr (0, [.null, .null, .int (nI 0), .int (nI 0), .int (nI 0), .int (nI 0)])), (q1, .inl (cI, 100, .inl (fun _ => 0)))] H := hP
  have hD : va_D A [(h0, .inr (0, [.null, .null, .int (nI 0), .int (nI 0), .int (nI 0), .int (nI 0)])), (q1, .inl (cI, 100, .inl (fun _ => 0)))] := hD
  refine va_putF (D := D) (ci := 0) (v := .ref q1) (ty := (.array .int)) (C := RX0) (T := TX0) (N := 6) hx hb hts hinX0 tyX0 tyX0_ok nmX0 hown hK hP hD hS 0 rfl rfl 1 (by decide) (hts _ (List.mem_of_getElem? (i := 5) rfl)) (fun _ h9 => h9) rfl hinit rfl (by decide +kernel) rfl rfl (Nat.le_of_ble_eq_true rfl) dX0_init_9 (fun H locs hP hD hS => ?_)
  have hP : va_P D vwCl [(h0, .inr (0, [.null, .ref q1, .int (nI 0), .int (nI 0), .int (nI 0), .int (nI 0)])), (q1, .inl (cI, 100, .inl (fun _ => 0)))] H := hP
  have hD : va_D A [(h0, .inr (0, [.null, .ref q1, .int (nI 0), .int (nI 0), .int (nI 0), .int (nI 0)])), (q1, .inl (cI, 100, .inl (fun _ => 0)))] := hD
  refine lv_aload_n hx hb dX0_init_12 rfl (lv_at hl 0 rfl) ?_
  refine lv_iconst (v := nI 0) hx hb dX0_init_13 (by decide) ?_
  refine va_put (D := D) (ci := 0) (v := .int (nI 0)) (ty := .int) (C := RX0) (T := TX0) (N := 6) hx hb hts hinX0 tyX0 tyX0_ok nmX0 hown hK hP hD hS 0 rfl rfl 2 (by decide) (hts _ (List.mem_of_getElem? (i := 6) rfl)) (fun _ h9 => h9) rfl (by decide +kernel) rfl rfl (Nat.le_of_ble_eq_true rfl) dX0_init_14 (fun H locs hP hD hS => ?_)
  have hP : va_P D vwCl [(h0, .inr (0, [.null, .ref q1, .int (nI 0), .int (nI 0), .int (nI 0), .int (nI 0)])), (q1, .inl (cI, 100, .inl (fun _ => 0)))] H := hP
  have hD : va_D A [(h0, .inr (0, [.null, .ref q1, .int (nI 0), .int (nI 0), .int (nI 0), .int (nI 0)])), (q1, .inl (cI, 100, .inl (fun _ => 0)))] := hD
  refine lv_aload_n hx hb dX0_init_17 rfl (lv_at hl 0 rfl) ?_
  refine lv_iconst (v := (-1)) hx hb dX0_init_18 (by decide) ?_
  refine va_put (D := D) (ci := 0) (v := .int (-1)) (ty := .int) (C := RX0) (T := TX0) (N := 6) hx hb hts hinX0 tyX0 tyX0_ok nmX0 hown hK hP hD hS 0 rfl rfl 3 (by decide) (hts _ (List.mem_of_getElem? (i := 7) rfl)) (fun _ h9 => h9) rfl (by decide +kernel) rfl rfl (Nat.le_of_ble_eq_true rfl) dX0_init_19 (fun H locs hP hD hS => ?_)
  have hP : va_P D vwCl [(h0, .inr (0, [.null, .ref q1, .int (nI 0), .int (-1), .int (nI 0), .int (nI 0)])), (q1, .inl (cI, 100, .inl (fun _ => 0)))] H := hP
  have hD : va_D A [(h0, .inr (0, [.null, .ref q1, .int (nI 0), .int (-1), .int (nI 0), .int (nI 0)])), (q1, .inl (cI, 100, .inl (fun _ => 0)))] := hD
  refine lv_aload_n hx hb dX0_init_22 rfl (lv_at hl 0 rfl) ?_
  refine lv_iconst (v := (-1)) hx hb dX0_init_23 (by decide) ?_
  refine va_put (D := D) (ci := 0) (v := .int (-1)) (ty := .int) (C := RX0) (T := TX0) (N := 6) hx hb hts hinX0 tyX0 tyX0_ok nmX0 hown hK hP hD hS 0 rfl rfl 4 (by decide) (hts _ (List.mem_of_getElem? (i := 8) rfl)) (fun _ h9 => h9) rfl (by decide +kernel) rfl rfl (Nat.le_of_ble_eq_true rfl) dX0_init_24 (fun H locs hP hD hS => ?_)
  have hP : va_P D vwCl [(h0, .inr (0, [.null, .ref q1, .int (nI 0), .int (-1), .int (-1), .int (nI 0)])), (q1, .inl (cI, 100, .inl (fun _ => 0)))] H := hP
  have hD : va_D A [(h0, .inr (0, [.null, .ref q1, .int (nI 0), .int (-1), .int (-1), .int (nI 0)])), (q1, .inl (cI, 100, .inl (fun _ => 0)))] := hD
  refine lv_aload_n hx hb dX0_init_27 rfl (lv_at hl 0 rfl) ?_
  refine lv_iconst (v := nI 0) hx hb dX0_init_28 (by decide) ?_
  refine va_put (D := D) (ci := 0) (v := .int (nI 0)) (ty := .int) (C := RX0) (T := TX0) (N := 6) hx hb hts hinX0 tyX0 tyX0_ok nmX0 hown hK hP hD hS 0 rfl rfl 5 (by decide) (hts _ (List.mem_of_getElem? (i := 9) rfl)) (fun _ h9 => h9) rfl (by decide +kernel) rfl rfl (Nat.le_of_ble_eq_true rfl) dX0_init_29 (fun H locs hP hD hS => ?_)
  have hP : va_P D vwCl [(h0, .inr (0, [.null, .ref q1, .int (nI 0), .int (-1), .int (-1), .int (nI 0)])), (q1, .inl (cI, 100, .inl (fun _ => 0)))] H := hP
  have hD : va_D A [(h0, .inr (0, [.null, .ref q1, .int (nI 0), .int (-1), .int (-1), .int (nI 0)])), (q1, .inl (cI, 100, .inl (fun _ => 0)))] := hD
  refine lv_aload_n hx hb dX0_init_32 rfl (lv_at hl 0 rfl) ?_
  refine lv_aload_n hx hb dX0_init_33 rfl (lv_at hl 1 rfl) ?_
  refine va_putF (D := D) (ci := 0) (v := .ref h1) (ty := (.object "FilmPlayer$Store")) (C := RX0) (T := TX0) (N := 6) hx hb hts hinX0 tyX0 tyX0_ok nmX0 hown hK hP hD hS 0 rfl rfl 0 (by decide) (hts _ (List.mem_of_getElem? (i := 10) rfl)) (fun _ h9 => h9) rfl hinit rfl (by decide +kernel) rfl rfl (Nat.le_of_ble_eq_true rfl) dX0_init_34 (fun H locs hP hD hS => ?_)
  have hP : va_P D vwCl [(h0, .inr (0, [.ref h1, .ref q1, .int (nI 0), .int (-1), .int (-1), .int (nI 0)])), (q1, .inl (cI, 100, .inl (fun _ => 0)))] H := hP
  have hD : va_D A [(h0, .inr (0, [.ref h1, .ref q1, .int (nI 0), .int (-1), .int (-1), .int (nI 0)])), (q1, .inl (cI, 100, .inl (fun _ => 0)))] := hD
  exact k_vret hx hb hr hlk q1 trivial hP hD hS dX0_init_37
set_option maxHeartbeats 4000000 in
set_option maxRecDepth 100000 in
theorem c_X3_init (l : Launch) (D : va_G) (cI cZ : ClassId) (h0 : Nat) : kMn l yX3_init wsX3_init 2 33 8 784 D (TY cI cZ) [.ref h0] [(h0, .inr (3, [.null, .null, .null, .int (nI 0)]))] (fun (u : (Nat → Nat)) => u 0 = h0) (fun (u : (Nat → Nat)) => XWa cI cZ u a_init) := by
  intro sz
  refine k_inn (Qc := fun A => va_Qv (fun (u : (Nat → Nat)) => u 0 = h0) (kB D A (fun (u : (Nat → Nat)) => XWa cI cZ u a_init)) A) (cc := cX3_init) (maxL := 1) (ret := none) (by decide) rfl (Nat.le_of_ble_eq_true rfl) ?_
  intro p e s m below meth c A ls hfix hr hlk hinit hN hP hK hD hA hS hl
  have hfix : CallFix p m c cX3_init 1 s [.ref h0].toArray wsX3_init RX3 := hfix
  have hl : lv_has ls 1 [(0, .ref h0)] := hl
  obtain ⟨hx, hb, hml, hown, hts⟩ := id hfix
  have hinX0 : ∀ w ∈ wsX00, w ∈ wsX3_init := fun _ h => List.mem_cons_of_mem _ (List.mem_append_right _ h)
  have hinX1 : ∀ w ∈ wsX10, w ∈ wsX3_init := fun _ h => List.mem_cons_of_mem _ (List.mem_append_left _ (List.mem_append_left _ (List.mem_append_left _ (List.mem_append_right _ h))))
  have hinX2 : ∀ w ∈ wsX20, w ∈ wsX3_init := fun _ h => List.mem_cons_of_mem _ (List.mem_append_left _ (List.mem_append_right _ h))
  have hinX3 : ∀ w ∈ wsX30, w ∈ wsX3_init := fun _ h => List.mem_cons_of_mem _ (List.mem_append_left _ (List.mem_append_left _ (List.mem_append_right _ h)))
  have hP : va_P D vwCl [(h0, .inr (3, [.null, .null, .null, .int (nI 0)]))] s.heap := hP
  have hD : va_D A [(h0, .inr (3, [.null, .null, .null, .int (nI 0)]))] := hD
  have hS : ∃ (H : Heap) (locs : List Loc), H = s.heap ∧ locs = [] ∧ va_S A s.heap H locs := ⟨_, _, rfl, rfl, hS⟩
  obtain ⟨H, locs, hH, hlocs, hS⟩ := hS
  rw [← hH] at hP
  suffices hW9 : W p l e ({ frames := 2, cells := 8, slots := 784, locals := 33 } : Room) s m [.ref h0].toArray below meth c H locs 0 0 (MQ below (va_Qv (fun (u : (Nat → Nat)) => u 0 = h0) (kB D A (fun (u : (Nat → Nat)) => XWa cI cZ u a_init)) A) [.ref h0].toArray s 8 784 A) (F0 m 0 ls []) by rw [hH, hlocs] at hW9; exact hW9
  clear hH hlocs
  refine lv_aload_n hx hb dX3_init_0 rfl (lv_at hl 0 rfl) ?_
  refine W.objInit hx hb hown (hts _ (List.mem_of_getElem? (i := 1) rfl)) (hts _ (List.mem_of_getElem? (i := 2) rfl)) (hts _ (List.mem_of_getElem? (i := 3) rfl)) rfl (by rw [hml]; exact hl.1) rfl dX3_init_1 (Nat.le_of_ble_eq_true rfl) (Nat.le_of_ble_eq_true rfl) ?_
  refine W.eq (g2 := F0 m 4 ls []) rfl ?_
  refine lv_aload_n hx hb dX3_init_4 rfl (lv_at hl 0 rfl) ?_
  refine va_new (ci := 1) (fs := [.null, .null, .int (nI 0), .int (nI 0), .int (nI 0), .int (nI 0), .int (nI 0), .int (nI 0), .int (nI 0)]) (C := RX1) (T := TX1) (N := 9) hx hb hts hinX1 tyX1 tyX1_ok hown (hts _ (List.mem_of_getElem? (i := 4) rfl)) (hts _ (List.mem_of_getElem? (i := 5) rfl)) (hts _ (List.mem_of_getElem? (i := 6) rfl)) hK hP hD hS hA rfl (fun j hj => by rcases (show j = 0 ∨ j = 1 ∨ j = 2 ∨ j = 3 ∨ j = 4 ∨ j = 5 ∨ j = 6 ∨ j = 7 ∨ j = 8 by omega) with rfl | rfl | rfl | rfl | rfl | rfl | rfl | rfl | rfl <;> rfl) (Nat.le_of_ble_eq_true rfl) (Nat.le_of_ble_eq_true rfl) dX3_init_5 (fun a1 H hP hD hS => ?_)
  have hP : va_P D vwCl [(h0, .inr (3, [.null, .null, .null, .int (nI 0)])), (a1, .inr (1, [.null, .null, .int (nI 0), .int (nI 0), .int (nI 0), .int (nI 0), .int (nI 0), .int (nI 0), .int (nI 0)]))] H := hP
  have hD : va_D A [(h0, .inr (3, [.null, .null, .null, .int (nI 0)])), (a1, .inr (1, [.null, .null, .int (nI 0), .int (nI 0), .int (nI 0), .int (nI 0), .int (nI 0), .int (nI 0), .int (nI 0)]))] := hD
  refine lv_dup hx hb dX3_init_8 rfl ?_
  refine k_callIN (n := 0) (wr := [(h0, .inr (3, [.null, .null, .null, .int (nI 0)]))]) (As := []) (rest := [.ref a1, .ref h0]) hfix hN hK hP hD hS hA hl.1 (c_X1_init l D cI cZ a1) gX3_init_X1_init_n11 rfl (hts _ (List.mem_of_getElem? (i := 6) rfl)) hN.m11 (hts _ (List.mem_of_getElem? (i := 16) rfl)) rfl (by decide +kernel) rfl ⟨Nat.le_of_ble_eq_true rfl, Nat.le_of_ble_eq_true rfl⟩ [1] [0] rfl rfl (by decide) (by decide) (by decide) rfl (Nat.le_of_ble_eq_true rfl) ⟨Nat.le_of_ble_eq_true rfl, Nat.le_of_ble_eq_true rfl⟩ dX3_init_9 (fun u H locs hw_9 hP hD hS => ?_)
  obtain ⟨a10, a11⟩ := u
  have hP : va_P D vwCl [(h0, .inr (3, [.null, .null, .null, .int (nI 0)])), (a1, .inr (1, [.ref a10, .ref a11, .int (nI 0), .int (nI 16), .int (nI 4), .int (nI 3), .int (nI 8), .int (nI 0), .int (nI 0)])), (a10, .inl (cI, 32, .inl (fun _ => 0))), (a11, .inl (cI, 32, .inl (fun _ => 0)))] H := hP
  have hD : va_D A [(h0, .inr (3, [.null, .null, .null, .int (nI 0)])), (a1, .inr (1, [.ref a10, .ref a11, .int (nI 0), .int (nI 16), .int (nI 4), .int (nI 3), .int (nI 8), .int (nI 0), .int (nI 0)])), (a10, .inl (cI, 32, .inl (fun _ => 0))), (a11, .inl (cI, 32, .inl (fun _ => 0)))] := hD
  refine va_putF (D := D) (ci := 3) (v := .ref a1) (ty := (.object "FilmPlayer$Ring")) (C := RX3) (T := TX3) (N := 4) hx hb hts hinX3 tyX3 tyX3_ok nmX3 hown hK hP hD hS 0 rfl rfl 0 (by decide) (hts _ (List.mem_of_getElem? (i := 7) rfl)) (fun _ h9 => h9) rfl hinit rfl (by decide +kernel) rfl rfl (Nat.le_of_ble_eq_true rfl) dX3_init_12 (fun H locs hP hD hS => ?_)
  have hP : va_P D vwCl [(h0, .inr (3, [.ref a1, .null, .null, .int (nI 0)])), (a1, .inr (1, [.ref a10, .ref a11, .int (nI 0), .int (nI 16), .int (nI 4), .int (nI 3), .int (nI 8), .int (nI 0), .int (nI 0)])), (a10, .inl (cI, 32, .inl (fun _ => 0))), (a11, .inl (cI, 32, .inl (fun _ => 0)))] H := hP
  have hD : va_D A [(h0, .inr (3, [.ref a1, .null, .null, .int (nI 0)])), (a1, .inr (1, [.ref a10, .ref a11, .int (nI 0), .int (nI 16), .int (nI 4), .int (nI 3), .int (nI 8), .int (nI 0), .int (nI 0)])), (a10, .inl (cI, 32, .inl (fun _ => 0))), (a11, .inl (cI, 32, .inl (fun _ => 0)))] := hD
  refine lv_aload_n hx hb dX3_init_15 rfl (lv_at hl 0 rfl) ?_
  refine va_new (ci := 2) (fs := [.null, .null, .int (nI 0), .int (nI 0), .int (nI 0)]) (C := RX2) (T := TX2) (N := 5) hx hb hts hinX2 tyX2 tyX2_ok hown (hts _ (List.mem_of_getElem? (i := 8) rfl)) (hts _ (List.mem_of_getElem? (i := 9) rfl)) (hts _ (List.mem_of_getElem? (i := 10) rfl)) hK hP hD hS hA rfl (fun j hj => by rcases (show j = 0 ∨ j = 1 ∨ j = 2 ∨ j = 3 ∨ j = 4 by omega) with rfl | rfl | rfl | rfl | rfl <;> rfl) (Nat.le_of_ble_eq_true rfl) (Nat.le_of_ble_eq_true rfl) dX3_init_16 (fun a2 H hP hD hS => ?_)
  have hP : va_P D vwCl [(h0, .inr (3, [.ref a1, .null, .null, .int (nI 0)])), (a1, .inr (1, [.ref a10, .ref a11, .int (nI 0), .int (nI 16), .int (nI 4), .int (nI 3), .int (nI 8), .int (nI 0), .int (nI 0)])), (a10, .inl (cI, 32, .inl (fun _ => 0))), (a11, .inl (cI, 32, .inl (fun _ => 0))), (a2, .inr (2, [.null, .null, .int (nI 0), .int (nI 0), .int (nI 0)]))] H := hP
  have hD : va_D A [(h0, .inr (3, [.ref a1, .null, .null, .int (nI 0)])), (a1, .inr (1, [.ref a10, .ref a11, .int (nI 0), .int (nI 16), .int (nI 4), .int (nI 3), .int (nI 8), .int (nI 0), .int (nI 0)])), (a10, .inl (cI, 32, .inl (fun _ => 0))), (a11, .inl (cI, 32, .inl (fun _ => 0))), (a2, .inr (2, [.null, .null, .int (nI 0), .int (nI 0), .int (nI 0)]))] := hD
  refine lv_dup hx hb dX3_init_19 rfl ?_
  refine k_callIN (n := 0) (wr := [(h0, .inr (3, [.ref a1, .null, .null, .int (nI 0)])), (a1, .inr (1, [.ref a10, .ref a11, .int (nI 0), .int (nI 16), .int (nI 4), .int (nI 3), .int (nI 8), .int (nI 0), .int (nI 0)])), (a10, .inl (cI, 32, .inl (fun _ => 0))), (a11, .inl (cI, 32, .inl (fun _ => 0)))]) (As := []) (rest := [.ref a2, .ref h0]) hfix hN hK hP hD hS hA hl.1 (c_X2_init l D cI cZ a2) gX3_init_X2_init_n18 rfl (hts _ (List.mem_of_getElem? (i := 10) rfl)) hN.m18 (hts _ (List.mem_of_getElem? (i := 29) rfl)) rfl (by decide +kernel) rfl ⟨Nat.le_of_ble_eq_true rfl, Nat.le_of_ble_eq_true rfl⟩ [4] [0, 1, 2, 3] rfl rfl (by decide) (by decide) (by decide) rfl (Nat.le_of_ble_eq_true rfl) ⟨Nat.le_of_ble_eq_true rfl, Nat.le_of_ble_eq_true rfl⟩ dX3_init_20 (fun u H locs hw_20 hP hD hS => ?_)
  obtain ⟨a20, a21⟩ := u
  have hP : va_P D vwCl [(h0, .inr (3, [.ref a1, .null, .null, .int (nI 0)])), (a1, .inr (1, [.ref a10, .ref a11, .int (nI 0), .int (nI 16), .int (nI 4), .int (nI 3), .int (nI 8), .int (nI 0), .int (nI 0)])), (a10, .inl (cI, 32, .inl (fun _ => 0))), (a11, .inl (cI, 32, .inl (fun _ => 0))), (a2, .inr (2, [.ref a20, .ref a21, .int (nI 0), .int (nI 0 - 1), .int (nI 0)])), (a20, .inl (cZ, 300, .inl (fun _ => 0))), (a21, .inl (cI, 300, .inl (fun _ => 0)))] H := hP
  have hD : va_D A [(h0, .inr (3, [.ref a1, .null, .null, .int (nI 0)])), (a1, .inr (1, [.ref a10, .ref a11, .int (nI 0), .int (nI 16), .int (nI 4), .int (nI 3), .int (nI 8), .int (nI 0), .int (nI 0)])), (a10, .inl (cI, 32, .inl (fun _ => 0))), (a11, .inl (cI, 32, .inl (fun _ => 0))), (a2, .inr (2, [.ref a20, .ref a21, .int (nI 0), .int (nI 0 - 1), .int (nI 0)])), (a20, .inl (cZ, 300, .inl (fun _ => 0))), (a21, .inl (cI, 300, .inl (fun _ => 0)))] := hD
  refine va_putF (D := D) (ci := 3) (v := .ref a2) (ty := (.object "FilmPlayer$Store")) (C := RX3) (T := TX3) (N := 4) hx hb hts hinX3 tyX3 tyX3_ok nmX3 hown hK hP hD hS 0 rfl rfl 1 (by decide) (hts _ (List.mem_of_getElem? (i := 11) rfl)) (fun _ h9 => h9) rfl hinit rfl (by decide +kernel) rfl rfl (Nat.le_of_ble_eq_true rfl) dX3_init_23 (fun H locs hP hD hS => ?_)
  have hP : va_P D vwCl [(h0, .inr (3, [.ref a1, .ref a2, .null, .int (nI 0)])), (a1, .inr (1, [.ref a10, .ref a11, .int (nI 0), .int (nI 16), .int (nI 4), .int (nI 3), .int (nI 8), .int (nI 0), .int (nI 0)])), (a10, .inl (cI, 32, .inl (fun _ => 0))), (a11, .inl (cI, 32, .inl (fun _ => 0))), (a2, .inr (2, [.ref a20, .ref a21, .int (nI 0), .int (nI 0 - 1), .int (nI 0)])), (a20, .inl (cZ, 300, .inl (fun _ => 0))), (a21, .inl (cI, 300, .inl (fun _ => 0)))] H := hP
  have hD : va_D A [(h0, .inr (3, [.ref a1, .ref a2, .null, .int (nI 0)])), (a1, .inr (1, [.ref a10, .ref a11, .int (nI 0), .int (nI 16), .int (nI 4), .int (nI 3), .int (nI 8), .int (nI 0), .int (nI 0)])), (a10, .inl (cI, 32, .inl (fun _ => 0))), (a11, .inl (cI, 32, .inl (fun _ => 0))), (a2, .inr (2, [.ref a20, .ref a21, .int (nI 0), .int (nI 0 - 1), .int (nI 0)])), (a20, .inl (cZ, 300, .inl (fun _ => 0))), (a21, .inl (cI, 300, .inl (fun _ => 0)))] := hD
  refine lv_aload_n hx hb dX3_init_26 rfl (lv_at hl 0 rfl) ?_
  refine va_new (ci := 0) (fs := [.null, .null, .int (nI 0), .int (nI 0), .int (nI 0), .int (nI 0)]) (C := RX0) (T := TX0) (N := 6) hx hb hts hinX0 tyX0 tyX0_ok hown (hts _ (List.mem_of_getElem? (i := 12) rfl)) (hts _ (List.mem_of_getElem? (i := 13) rfl)) (hts _ (List.mem_of_getElem? (i := 14) rfl)) hK hP hD hS hA rfl (fun j hj => by rcases (show j = 0 ∨ j = 1 ∨ j = 2 ∨ j = 3 ∨ j = 4 ∨ j = 5 by omega) with rfl | rfl | rfl | rfl | rfl | rfl <;> rfl) (Nat.le_of_ble_eq_true rfl) (Nat.le_of_ble_eq_true rfl) dX3_init_27 (fun a3 H hP hD hS => ?_)
  have hP : va_P D vwCl [(h0, .inr (3, [.ref a1, .ref a2, .null, .int (nI 0)])), (a1, .inr (1, [.ref a10, .ref a11, .int (nI 0), .int (nI 16), .int (nI 4), .int (nI 3), .int (nI 8), .int (nI 0), .int (nI 0)])), (a10, .inl (cI, 32, .inl (fun _ => 0))), (a11, .inl (cI, 32, .inl (fun _ => 0))), (a2, .inr (2, [.ref a20, .ref a21, .int (nI 0), .int (nI 0 - 1), .int (nI 0)])), (a20, .inl (cZ, 300, .inl (fun _ => 0))), (a21, .inl (cI, 300, .inl (fun _ => 0))), (a3, .inr (0, [.null, .null, .int (nI 0), .int (nI 0), .int (nI 0), .int (nI 0)]))] H := hP
  have hD : va_D A [(h0, .inr (3, [.ref a1, .ref a2, .null, .int (nI 0)])), (a1, .inr (1, [.ref a10, .ref a11, .int (nI 0), .int (nI 16), .int (nI 4), .int (nI 3), .int (nI 8), .int (nI 0), .int (nI 0)])), (a10, .inl (cI, 32, .inl (fun _ => 0))), (a11, .inl (cI, 32, .inl (fun _ => 0))), (a2, .inr (2, [.ref a20, .ref a21, .int (nI 0), .int (nI 0 - 1), .int (nI 0)])), (a20, .inl (cZ, 300, .inl (fun _ => 0))), (a21, .inl (cI, 300, .inl (fun _ => 0))), (a3, .inr (0, [.null, .null, .int (nI 0), .int (nI 0), .int (nI 0), .int (nI 0)]))] := hD
  refine lv_dup hx hb dX3_init_30 rfl ?_
  refine lv_aload_n hx hb dX3_init_31 rfl (lv_at hl 0 rfl) ?_
  refine va_get (D := D) (ci := 3) (v := .ref a2) (C := RX3) (T := TX3) (N := 4) hx hb hts hinX3 hown hK hP 0 rfl rfl 1 (by decide) (hts _ (List.mem_of_getElem? (i := 11) rfl)) (fun _ h9 => h9) rfl dX3_init_32 ?_
  refine k_callI (n := 1) (wr := [(h0, .inr (3, [.ref a1, .ref a2, .null, .int (nI 0)])), (a1, .inr (1, [.ref a10, .ref a11, .int (nI 0), .int (nI 16), .int (nI 4), .int (nI 3), .int (nI 8), .int (nI 0), .int (nI 0)])), (a10, .inl (cI, 32, .inl (fun _ => 0))), (a11, .inl (cI, 32, .inl (fun _ => 0))), (a2, .inr (2, [.ref a20, .ref a21, .int (nI 0), .int (nI 0 - 1), .int (nI 0)])), (a20, .inl (cZ, 300, .inl (fun _ => 0))), (a21, .inl (cI, 300, .inl (fun _ => 0)))]) (As := [.ref a2]) (rest := [.ref a3, .ref h0]) hfix hN hK hP hD hS hA hl.1 (c_X0_init l D cI cZ a3 a2) gX3_init_X0_init rfl (hts _ (List.mem_of_getElem? (i := 14) rfl)) (hts _ (List.mem_of_getElem? (i := 38) rfl)) (hts _ (List.mem_of_getElem? (i := 39) rfl)) rfl (by decide +kernel) rfl ⟨Nat.le_of_ble_eq_true rfl, Nat.le_of_ble_eq_true rfl⟩ [7] [0, 1, 2, 3, 4, 5, 6] rfl rfl (by decide) (by decide) (by decide) rfl (Nat.le_of_ble_eq_true rfl) ⟨Nat.le_of_ble_eq_true rfl, Nat.le_of_ble_eq_true rfl⟩ dX3_init_35 (fun u H locs hw_35 hP hD hS => ?_)
  obtain ⟨a31, rfl⟩ : ∃ z, z = u := ⟨_, rfl⟩
  have hP : va_P D vwCl [(h0, .inr (3, [.ref a1, .ref a2, .null, .int (nI 0)])), (a1, .inr (1, [.ref a10, .ref a11, .int (nI 0), .int (nI 16), .int (nI 4), .int (nI 3), .int (nI 8), .int (nI 0), .int (nI 0)])), (a10, .inl (cI, 32, .inl (fun _ => 0))), (a11, .inl (cI, 32, .inl (fun _ => 0))), (a2, .inr (2, [.ref a20, .ref a21, .int (nI 0), .int (nI 0 - 1), .int (nI 0)])), (a20, .inl (cZ, 300, .inl (fun _ => 0))), (a21, .inl (cI, 300, .inl (fun _ => 0))), (a3, .inr (0, [.ref a2, .ref a31, .int (nI 0), .int (-1), .int (-1), .int (nI 0)])), (a31, .inl (cI, 100, .inl (fun _ => 0)))] H := hP
  have hD : va_D A [(h0, .inr (3, [.ref a1, .ref a2, .null, .int (nI 0)])), (a1, .inr (1, [.ref a10, .ref a11, .int (nI 0), .int (nI 16), .int (nI 4), .int (nI 3), .int (nI 8), .int (nI 0), .int (nI 0)])), (a10, .inl (cI, 32, .inl (fun _ => 0))), (a11, .inl (cI, 32, .inl (fun _ => 0))), (a2, .inr (2, [.ref a20, .ref a21, .int (nI 0), .int (nI 0 - 1), .int (nI 0)])), (a20, .inl (cZ, 300, .inl (fun _ => 0))), (a21, .inl (cI, 300, .inl (fun _ => 0))), (a3, .inr (0, [.ref a2, .ref a31, .int (nI 0), .int (-1), .int (-1), .int (nI 0)])), (a31, .inl (cI, 100, .inl (fun _ => 0)))] := hD
  refine va_putF (D := D) (ci := 3) (v := .ref a3) (ty := (.object "FilmPlayer$Film")) (C := RX3) (T := TX3) (N := 4) hx hb hts hinX3 tyX3 tyX3_ok nmX3 hown hK hP hD hS 0 rfl rfl 2 (by decide) (hts _ (List.mem_of_getElem? (i := 15) rfl)) (fun _ h9 => h9) rfl hinit rfl (by decide +kernel) rfl rfl (Nat.le_of_ble_eq_true rfl) dX3_init_38 (fun H locs hP hD hS => ?_)
  have hP : va_P D vwCl [(h0, .inr (3, [.ref a1, .ref a2, .ref a3, .int (nI 0)])), (a1, .inr (1, [.ref a10, .ref a11, .int (nI 0), .int (nI 16), .int (nI 4), .int (nI 3), .int (nI 8), .int (nI 0), .int (nI 0)])), (a10, .inl (cI, 32, .inl (fun _ => 0))), (a11, .inl (cI, 32, .inl (fun _ => 0))), (a2, .inr (2, [.ref a20, .ref a21, .int (nI 0), .int (nI 0 - 1), .int (nI 0)])), (a20, .inl (cZ, 300, .inl (fun _ => 0))), (a21, .inl (cI, 300, .inl (fun _ => 0))), (a3, .inr (0, [.ref a2, .ref a31, .int (nI 0), .int (-1), .int (-1), .int (nI 0)])), (a31, .inl (cI, 100, .inl (fun _ => 0)))] H := hP
  have hD : va_D A [(h0, .inr (3, [.ref a1, .ref a2, .ref a3, .int (nI 0)])), (a1, .inr (1, [.ref a10, .ref a11, .int (nI 0), .int (nI 16), .int (nI 4), .int (nI 3), .int (nI 8), .int (nI 0), .int (nI 0)])), (a10, .inl (cI, 32, .inl (fun _ => 0))), (a11, .inl (cI, 32, .inl (fun _ => 0))), (a2, .inr (2, [.ref a20, .ref a21, .int (nI 0), .int (nI 0 - 1), .int (nI 0)])), (a20, .inl (cZ, 300, .inl (fun _ => 0))), (a21, .inl (cI, 300, .inl (fun _ => 0))), (a3, .inr (0, [.ref a2, .ref a31, .int (nI 0), .int (-1), .int (-1), .int (nI 0)])), (a31, .inl (cI, 100, .inl (fun _ => 0)))] := hD
  have hP : va_P D vwCl [(h0, .inr (3, [.ref a1, .ref a2, .ref a3, .int (nI 0)])), (a1, .inr (1, [.ref a10, .ref a11, .int (nI 0), .int (nI 16), .int (nI 4), .int (nI 3), .int (nI 8), .int (nI 0), .int (nI 0)])), (a10, .inl (cI, 32, .inl (fun _ => 0))), (a11, .inl (cI, 32, .inl (fun _ => 0))), (a2, .inr (2, [.ref a20, .ref a21, .int (nI 0), .int (nI 0 - 1), .int (nI 0)])), (a20, .inl (cZ, 300, .inl (fun _ => 0))), (a21, .inl (cI, 300, .inl (fun _ => 0))), (a3, .inr (0, [.ref a2, .ref a31, .int (nI 0), .int (-1), .int (-1), .int (nI 0)])), (a31, .inl (cI, 100, .inl (fun _ => 0)))] H := hP.sub [0, 1, 2, 3, 4, 5, 6, 7, 8] rfl
  have hD : va_D A [(h0, .inr (3, [.ref a1, .ref a2, .ref a3, .int (nI 0)])), (a1, .inr (1, [.ref a10, .ref a11, .int (nI 0), .int (nI 16), .int (nI 4), .int (nI 3), .int (nI 8), .int (nI 0), .int (nI 0)])), (a10, .inl (cI, 32, .inl (fun _ => 0))), (a11, .inl (cI, 32, .inl (fun _ => 0))), (a2, .inr (2, [.ref a20, .ref a21, .int (nI 0), .int (nI 0 - 1), .int (nI 0)])), (a20, .inl (cZ, 300, .inl (fun _ => 0))), (a21, .inl (cI, 300, .inl (fun _ => 0))), (a3, .inr (0, [.ref a2, .ref a31, .int (nI 0), .int (-1), .int (-1), .int (nI 0)])), (a31, .inl (cI, 100, .inl (fun _ => 0)))] := hD.sub [0, 1, 2, 3, 4, 5, 6, 7, 8] (by decide) rfl
  exact k_vret hx hb hr hlk (fun k => if k = 0 then h0 else if k = 1 then a1 else if k = 2 then a2 else if k = 3 then a3 else if k = 10 then a10 else if k = 11 then a11 else if k = 20 then a20 else if k = 21 then a21 else a31) rfl hP hD hS dX3_init_41