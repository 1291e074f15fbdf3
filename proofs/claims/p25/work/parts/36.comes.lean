/-! some, cell; a packet that comes into a ring with room -/
def uS (x n : Int32) : Int32 := (x.toUInt32 >>> (n.toUInt32 &&& Int32.toUInt32 31)).toInt32
def sV (x n : Int32) : Int32 := uS x (nI 1) - uS x (nI 1) / n * n
def cV (v k : Int32) : Int32 := (v ^^^ uS v (nI 14)) * 528734635 + nI 137 * k
set_option maxHeartbeats 4000000 in
set_option maxRecDepth 100000 in
theorem c_L_some (l : Launch) (D : va_G) (cI cZ : ClassId) (x n : Int32) (hn : ¬ n = 0) : kMi l yL_some wsL_some 0 0 D (TY cI cZ) [.int x, .int n] [] (fun (r : Int32) (_ : Unit) => r = sV x n) (fun (_ : Unit) => []) := by
  intro sz
  refine k_in (Qc := fun A => va_Qi (fun (r : Int32) (_ : Unit) => r = sV x n) (kB D A (fun (_ : Unit) => [])) A) (cc := cL_some) (maxL := 2) (ret := (some .int)) (by decide) rfl (Nat.le_of_ble_eq_true rfl) ?_
  intro p e s m below meth c A ls hfix hr hlk hN hP hK hD hA hS hl
  have hfix : CallFix p m c cL_some 2 s [.int x, .int n].toArray wsL_some RL := hfix
  have hl : lv_has ls 2 [(0, .int x), (1, .int n)] := hl
  obtain ⟨hx, hb, hml, hown, hts⟩ := id hfix
  refine lv_iload_n hx hb dL_some_0 rfl (lv_at hl 0 rfl) ?_
  refine lv_iconst (v := nI 1) hx hb dL_some_1 (by decide) ?_
  refine lv_iushr (v := uS x (nI 1)) hx hb dL_some_2 rfl ?_
  refine lv_iload_n hx hb dL_some_3 rfl (lv_at hl 1 rfl) ?_
  refine lv_irem hx hb dL_some_4 hn ?_
  exact k_iret (v := sV x n) hx hb hr hlk rfl () rfl hP hD hS dL_some_5
set_option maxHeartbeats 4000000 in
set_option maxRecDepth 100000 in
theorem c_L_cell (l : Launch) (D : va_G) (cI cZ : ClassId) (b L k : Nat) (xs : Nat → Int32) (hk : k < L) (hL : L ≤ 260) : kMi l yL_cell wsL_cell 0 0 D (TY cI cZ) [.ref b, .int (nI k)] [(b, .inl (cI, L, .inl xs))] (fun (r : Int32) (_ : Unit) => r = cV (xs k) (nI k)) (fun (_ : Unit) => [(b, .inl (cI, L, .inl xs))]) := by
  intro sz
  refine k_in (Qc := fun A => va_Qi (fun (r : Int32) (_ : Unit) => r = cV (xs k) (nI k)) (kB D A (fun (_ : Unit) => [(b, .inl (cI, L, .inl xs))])) A) (cc := cL_cell) (maxL := 3) (ret := (some .int)) (by decide) rfl (Nat.le_of_ble_eq_true rfl) ?_
  intro p e s m below meth c A ls hfix hr hlk hN hP hK hD hA hS hl
  have hfix : CallFix p m c cL_cell 3 s [.ref b, .int (nI k)].toArray wsL_cell RL := hfix
  have hl : lv_has ls 3 [(0, .ref b), (1, .int (nI k))] := hl
  obtain ⟨hx, hb, hml, hown, hts⟩ := id hfix
  refine lv_iload_n hx hb dL_cell_0 rfl (lv_at hl 1 rfl) ?_
  refine lv_aload_n hx hb dL_cell_1 rfl (lv_at hl 0 rfl) ?_
  refine va_alen (v := nI L) hx hb hK hP 0 0 rfl rfl rfl dL_cell_2 ?_
  refine k_icmp_ge (tgt := 12) hx hb (by omega) (by omega) dL_cell_3 (by decide) (fun h => by omega) (fun _ => ?_)
  refine lv_aload_n hx hb dL_cell_6 rfl (lv_at hl 0 rfl) ?_
  refine lv_iload_n hx hb dL_cell_7 rfl (lv_at hl 1 rfl) ?_
  refine k_iald hx hb hK hP 0 0 rfl rfl hk (by omega) dL_cell_8 ?_
  refine lv_goto (tgt := 20) hx hb dL_cell_9 (by decide) ?_
  refine lv_istore_n (lv' := [(2, .int (xs k)), (0, .ref b), (1, .int (nI k))]) hx hb dL_cell_20 rfl hl (by decide) rfl (fun ls hl => ?_)
  refine lv_iload_n hx hb dL_cell_21 rfl (lv_at hl 0 rfl) ?_
  refine lv_iload_n hx hb dL_cell_22 rfl (lv_at hl 0 rfl) ?_
  refine lv_bipush (v := nI 14) hx hb dL_cell_23 (by decide) ?_
  refine lv_iushr (v := uS (xs k) (nI 14)) hx hb dL_cell_25 rfl ?_
  refine lv_ixor hx hb dL_cell_26 ?_
  refine lv_ldc (v := 528734635) hx hb hown (hts _ (List.mem_of_getElem? (i := 1) rfl)) dL_cell_27 ?_
  refine lv_imul hx hb dL_cell_29 ?_
  refine lv_sipush (v := nI 137) hx hb dL_cell_30 (by decide) ?_
  refine lv_iload_n hx hb dL_cell_33 rfl (lv_at hl 2 rfl) ?_
  refine lv_imul hx hb dL_cell_34 ?_
  refine lv_iadd hx hb dL_cell_35 ?_
  exact k_iret (v := cV (xs k) (nI k)) hx hb hr hlk rfl () rfl hP hD hS dL_cell_36
set_option maxHeartbeats 4000000 in
set_option maxRecDepth 100000 in
theorem c_L_comes (l : Launch) (D : va_G) (cI cZ : ClassId) (hfl : l.stackTraces = false) (q : Nat → Nat) (a : AS) (hI : AI a) (h4 : a.1 4 < 16) (h0 : a.1 0 = 16) (h11 : a.1 11 = 0) : kMg l yL_comes wsL_comes 7 130 3 18 D (TY cI cZ) [.ref (q 0), .int (nI 16), .int (nI 3)] (XWa cI cZ q a) (XWa cI cZ q (a_come (nI 1) a)) (nI 1) 0 := by
  intro sz
  refine k_ing (sz := sz) (Qc := fun A => va_Qi (fun (x : Int32) (_ : Unit) => x = nI 1) (gB D A (XWa cI cZ q (a_come (nI 1) a)) (sz + 0)) A) (cc := cL_comes) (maxL := 10) (ret := (some .boolean)) (by decide) rfl (Nat.le_of_ble_eq_true rfl) ?_
  intro p e s m below meth c A ls hfix hr hlk hN hC hZ hsz hP hK hD hA hS hl
  subst hsz
  have hfix : CallFix p m c cL_comes 10 s [.ref (q 0), .int (nI 16), .int (nI 3)].toArray wsL_comes RL := hfix
  have hl : lv_has ls 10 [(0, .ref (q 0)), (1, .int (nI 16)), (2, .int (nI 3))] := hl
  obtain ⟨hx, hb, hml, hown, hts⟩ := id hfix
  have hlt : a.1 4 < a.1 0 := by omega
  have hca : a_come (nI 1) a = sN (sA (sA a 0 (upd (a.2 0) (a.1 4) (nI 1))) 1 (upd (a.2 1) (a.1 4) (nI (a.1 7)))) 4 (a.1 4 + 1) := a_come_t hlt
  have g4 : (a_come (nI 1) a).1 4 = a.1 4 + 1 := by rw [hca]; rfl
  have g6 : (a_come (nI 1) a).1 6 = a.1 6 := by rw [hca]; rfl
  have g2 : (a_come (nI 1) a).2 2 = a.2 2 := by rw [hca]; rfl
  have hI2 : AI (a_come (nI 1) a) := AI_come (nI 1) (vp_in_nI (by decide) (by decide)) hI
  refine lv_aload_n hx hb dL_comes_0 rfl (lv_at hl 0 rfl) ?_
  refine k_callVi (n := 0) (wr := []) (wc := (XWa cI cZ q a)) (As := []) (rest := []) hfix hN hK hP hD hS hA hl.1 (c_X3_waiting l D cI cZ q a) gL_comes_X3_waiting rfl (by decide +kernel) rfl ⟨Nat.le_of_ble_eq_true rfl, Nat.le_of_ble_eq_true rfl⟩ [0, 1, 2, 3, 4, 5, 6, 7, 8] [] rfl rfl (by decide) (by decide) (by decide) 0 rfl rfl rfl (Nat.le_of_ble_eq_true rfl) ⟨Nat.le_of_ble_eq_true rfl, Nat.le_of_ble_eq_true rfl⟩ dL_comes_1 (fun r u H locs hw hP hD hS => ?_)
  obtain rfl : r = nI (a.1 4) := hw
  refine lv_istore_n (lv' := [(3, .int (nI (a.1 4))), (0, .ref (q 0)), (1, .int (nI 16)), (2, .int (nI 3))]) hx hb dL_comes_4 rfl hl (by decide) rfl (fun ls hl => ?_)
  refine lv_aload_n hx hb dL_comes_5 rfl (lv_at hl 1 rfl) ?_
  refine k_callVi (n := 0) (wr := []) (wc := (XWa cI cZ q a)) (As := []) (rest := []) hfix hN hK hP hD hS hA hl.1 (c_X3_lost l D cI cZ q a) gL_comes_X3_lost rfl (by decide +kernel) rfl ⟨Nat.le_of_ble_eq_true rfl, Nat.le_of_ble_eq_true rfl⟩ [0, 1, 2, 3, 4, 5, 6, 7, 8] [] rfl rfl (by decide) (by decide) (by decide) 0 rfl rfl rfl (Nat.le_of_ble_eq_true rfl) ⟨Nat.le_of_ble_eq_true rfl, Nat.le_of_ble_eq_true rfl⟩ dL_comes_6 (fun r u H locs hw hP hD hS => ?_)
  obtain rfl : r = nI (a.1 6) := hw
  refine lv_istore (lv' := [(4, .int (nI (a.1 6))), (3, .int (nI (a.1 4))), (0, .ref (q 0)), (1, .int (nI 16)), (2, .int (nI 3))]) hx hb dL_comes_9 hl (by decide) rfl (fun ls hl => ?_)
  refine lv_aload_n hx hb dL_comes_11 rfl (lv_at hl 2 rfl) ?_
  refine k_callVi (n := 0) (wr := []) (wc := (XWa cI cZ q a)) (As := []) (rest := []) hfix hN hK hP hD hS hA hl.1 (c_X3_next l D cI cZ q a hI) gL_comes_X3_next rfl (by decide +kernel) rfl ⟨Nat.le_of_ble_eq_true rfl, Nat.le_of_ble_eq_true rfl⟩ [0, 1, 2, 3, 4, 5, 6, 7, 8] [] rfl rfl (by decide) (by decide) (by decide) 0 rfl rfl rfl (Nat.le_of_ble_eq_true rfl) ⟨Nat.le_of_ble_eq_true rfl, Nat.le_of_ble_eq_true rfl⟩ dL_comes_12 (fun r u H locs hw hP hD hS => ?_)
  obtain rfl : r = nI 0 := by
    have hw : r = (if a.1 11 < 100 then nI (a.1 11) else (-1)) := hw
    rw [hw, if_pos (by omega), h11]
  refine lv_iconst (v := (-1)) hx hb dL_comes_15 (by decide) ?_
  refine lv_icmp_ne (tgt := 24) hx hb dL_comes_16 (by decide) (fun _ => ?_) (fun h => absurd h (by decide))
  refine lv_aload_n hx hb dL_comes_24 rfl (lv_at hl 2 rfl) ?_
  refine k_callVi (n := 0) (wr := []) (wc := (XWa cI cZ q a)) (As := []) (rest := []) hfix hN hK hP hD hS hA hl.1 (c_X3_next l D cI cZ q a hI) gL_comes_X3_next rfl (by decide +kernel) rfl ⟨Nat.le_of_ble_eq_true rfl, Nat.le_of_ble_eq_true rfl⟩ [0, 1, 2, 3, 4, 5, 6, 7, 8] [] rfl rfl (by decide) (by decide) (by decide) 0 rfl rfl rfl (Nat.le_of_ble_eq_true rfl) ⟨Nat.le_of_ble_eq_true rfl, Nat.le_of_ble_eq_true rfl⟩ dL_comes_25 (fun r u H locs hw hP hD hS => ?_)
  obtain rfl : r = nI 0 := by
    have hw : r = (if a.1 11 < 100 then nI (a.1 11) else (-1)) := hw
    rw [hw, if_pos (by omega), h11]
  refine lv_istore (lv' := [(5, .int (nI 0)), (4, .int (nI (a.1 6))), (3, .int (nI (a.1 4))), (0, .ref (q 0)), (1, .int (nI 16)), (2, .int (nI 3))]) hx hb dL_comes_28 hl (by decide) rfl (fun ls hl => ?_)
  refine lv_iconst (v := nI 3) hx hb dL_comes_30 (by decide) ?_
  refine lv_iload hx hb dL_comes_31 (lv_at hl 0 rfl) ?_
  refine lv_bipush (v := nI 97) hx hb dL_comes_33 (by decide) ?_
  refine k_icmp_ge (tgt := 43) hx hb (by decide) (by decide) dL_comes_35 (by decide) (fun h => absurd h (by decide)) (fun _ => ?_)
  refine lv_iload hx hb dL_comes_38 (lv_at hl 0 rfl) ?_
  refine lv_goto (tgt := 45) hx hb dL_comes_40 (by decide) ?_
  refine k_imul hx hb dL_comes_45 ?_
  refine lv_iload_n hx hb dL_comes_46 rfl (lv_at hl 5 rfl) ?_
  refine lv_bipush (v := nI 8) hx hb dL_comes_47 (by decide) ?_
  refine k_callSw (n := 2) (wr := (XWa cI cZ q a)) (wc := []) (As := [.int (nI 3), .int (nI 8)]) (rest := [.int (nI (3 * 0))]) hfix hN hK hP hD hS hA hl.1 (c_L_some l D cI cZ (nI 3) (nI 8) (by decide +kernel)) gL_comes_L_some rfl (by decide +kernel) rfl ⟨Nat.le_of_ble_eq_true rfl, Nat.le_of_ble_eq_true rfl⟩ [] [0, 1, 2, 3, 4, 5, 6, 7, 8] rfl rfl (by decide) (by decide) (by decide) rfl (Nat.le_of_ble_eq_true rfl) ⟨Nat.le_of_ble_eq_true rfl, Nat.le_of_ble_eq_true rfl⟩ dL_comes_49 (fun r u H locs hz9 hw hP hD hS => ?_)
  obtain rfl : r = nI 1 := by
    have hw : r = sV (nI 3) (nI 8) := hw
    rw [hw]; decide +kernel
  refine k_iadd hx hb dL_comes_52 ?_
  refine lv_istore (lv' := [(6, .int (nI 1)), (5, .int (nI 0)), (4, .int (nI (a.1 6))), (3, .int (nI (a.1 4))), (0, .ref (q 0)), (1, .int (nI 16)), (2, .int (nI 3))]) hx hb dL_comes_53 hl (by decide) rfl (fun ls hl => ?_)
  refine lv_iload_n hx hb dL_comes_55 rfl (lv_at hl 6 rfl) ?_
  refine lv_iconst (v := nI 4) hx hb dL_comes_56 (by decide) ?_
  refine lv_ishr hx hb dL_comes_57 ?_
  refine lv_iconst (v := nI 3) hx hb dL_comes_58 (by decide) ?_
  refine k_callSw (n := 2) (wr := (XWa cI cZ q a)) (wc := []) (As := [.int (nI 3 >>> (nI 4 &&& 31)), .int (nI 3)]) (rest := []) hfix hN hK hP hD hS hA hl.1 (c_L_some l D cI cZ (nI 3 >>> (nI 4 &&& 31)) (nI 3) (by decide +kernel)) gL_comes_L_some rfl (by decide +kernel) rfl ⟨Nat.le_of_ble_eq_true rfl, Nat.le_of_ble_eq_true rfl⟩ [] [0, 1, 2, 3, 4, 5, 6, 7, 8] rfl rfl (by decide) (by decide) (by decide) rfl (Nat.le_of_ble_eq_true rfl) ⟨Nat.le_of_ble_eq_true rfl, Nat.le_of_ble_eq_true rfl⟩ dL_comes_59 (fun r u H locs hz9 hw hP hD hS => ?_)
  obtain rfl : r = nI 0 := by
    have hw : r = sV (nI 3 >>> (nI 4 &&& 31)) (nI 3) := hw
    rw [hw]; decide +kernel
  refine k_if_ne (tgt := 157) hx hb (by decide) dL_comes_62 (by decide) (fun h => absurd rfl h) (fun _ => ?_)
  refine lv_aload_n hx hb dL_comes_65 rfl (lv_at hl 4 rfl) ?_
  refine lv_iload hx hb dL_comes_66 (lv_at hl 0 rfl) ?_
  refine k_callXi (n := 1) (wr := []) (wc := (XWa cI cZ q a)) (As := [.int (nI 1)]) (rest := []) hfix hN hC hZ hK hP hD hS hA hl.1 (c_X3_has l D cI cZ hfl q a (nI 1)) gL_comes_X3_has rfl (by decide +kernel) rfl ⟨Nat.le_of_ble_eq_true rfl, Nat.le_of_ble_eq_true rfl⟩ [0, 1, 2, 3, 4, 5, 6, 7, 8] [] rfl rfl (by decide) (by decide) (by decide) 0 rfl rfl rfl (Nat.le_of_ble_eq_true rfl) ⟨Nat.le_of_ble_eq_true rfl, Nat.le_of_ble_eq_true rfl⟩ dL_comes_68 (fun E ce q9 H locs hxe hP hD hS hz hce hcv hcl => absurd (by decide +kernel) hxe.2) (fun r u H locs hw hP hD hS => ?_)
  obtain rfl : r = (if a.2 2 (nI 1).toNatClampNeg = 0 then nI 0 else nI 1) := hw.2
  refine lv_istore (lv' := [(7, .int (if a.2 2 (nI 1).toNatClampNeg = 0 then nI 0 else nI 1)), (6, .int (nI 1)), (5, .int (nI 0)), (4, .int (nI (a.1 6))), (3, .int (nI (a.1 4))), (0, .ref (q 0)), (1, .int (nI 16)), (2, .int (nI 3))]) hx hb dL_comes_71 hl (by decide) rfl (fun ls hl => ?_)
  refine lv_aload_n hx hb dL_comes_73 rfl (lv_at hl 5 rfl) ?_
  refine lv_iload hx hb dL_comes_74 (lv_at hl 1 rfl) ?_
  refine k_callXi (n := 1) (wr := []) (wc := (XWa cI cZ q a)) (As := [.int (nI 1)]) (rest := []) hfix hN hC hZ hK hP hD hS hA hl.1 (c_X3_arrive l D cI cZ hfl q a hI (nI 1)) gL_comes_X3_arrive rfl (by decide +kernel) rfl ⟨Nat.le_of_ble_eq_true rfl, Nat.le_of_ble_eq_true rfl⟩ [0, 1, 2, 3, 4, 5, 6, 7, 8] [] rfl rfl (by decide) (by decide) (by decide) 0 rfl rfl rfl (Nat.le_of_ble_eq_true rfl) ⟨Nat.le_of_ble_eq_true rfl, Nat.le_of_ble_eq_true rfl⟩ dL_comes_76 (fun E ce q9 H locs hxe hP hD hS hz hce hcv hcl => absurd (by decide +kernel) hxe.2) (fun r u H locs hw hP hD hS => ?_)
  obtain rfl : r = nI (a.1 4 + 1) := by
    rw [hw.2, if_pos hlt, g4]
  refine lv_istore (lv' := [(8, .int (nI (a.1 4 + 1))), (7, .int (if a.2 2 (nI 1).toNatClampNeg = 0 then nI 0 else nI 1)), (6, .int (nI 1)), (5, .int (nI 0)), (4, .int (nI (a.1 6))), (3, .int (nI (a.1 4))), (0, .ref (q 0)), (1, .int (nI 16)), (2, .int (nI 3))]) hx hb dL_comes_79 hl (by decide) rfl (fun ls hl => ?_)
  refine lv_iload_n hx hb dL_comes_81 rfl (lv_at hl 5 rfl) ?_
  refine lv_iload_n hx hb dL_comes_82 rfl (lv_at hl 7 rfl) ?_
  refine k_icmp_lt (tgt := 114) hx hb (by omega) (by decide) dL_comes_83 (by decide) (fun _ => ?_) (fun h => by omega)
  refine lv_iload hx hb dL_comes_114 (lv_at hl 0 rfl) ?_
  refine lv_iload_n hx hb dL_comes_116 rfl (lv_at hl 5 rfl) ?_
  refine lv_iconst (v := nI 1) hx hb dL_comes_117 (by decide) ?_
  refine k_iadd hx hb dL_comes_118 ?_
  refine lv_icmp_ne (tgt := 155) hx hb dL_comes_119 (by decide) (fun h => absurd rfl h) (fun _ => ?_)
  refine lv_aload_n hx hb dL_comes_122 rfl (lv_at hl 6 rfl) ?_
  refine k_callVi (n := 0) (wr := []) (wc := (XWa cI cZ q (a_come (nI 1) a))) (As := []) (rest := []) hfix hN hK hP hD hS hA hl.1 (c_X3_waiting l D cI cZ q (a_come (nI 1) a)) gL_comes_X3_waiting rfl (by decide +kernel) rfl ⟨Nat.le_of_ble_eq_true rfl, Nat.le_of_ble_eq_true rfl⟩ [0, 1, 2, 3, 4, 5, 6, 7, 8] [] rfl rfl (by decide) (by decide) (by decide) 0 rfl rfl rfl (Nat.le_of_ble_eq_true rfl) ⟨Nat.le_of_ble_eq_true rfl, Nat.le_of_ble_eq_true rfl⟩ dL_comes_123 (fun r u H locs hw hP hD hS => ?_)
  obtain rfl : r = nI (a.1 4 + 1) := by
    have hw : r = nI ((a_come (nI 1) a).1 4) := hw
    rw [hw, g4]
  refine lv_iload hx hb dL_comes_126 (lv_at hl 0 rfl) ?_
  refine lv_icmp_ne (tgt := 155) hx hb dL_comes_128 (by decide) (fun h => absurd rfl h) (fun _ => ?_)
  refine lv_aload_n hx hb dL_comes_131 rfl (lv_at hl 6 rfl) ?_
  refine k_callVi (n := 0) (wr := []) (wc := (XWa cI cZ q (a_come (nI 1) a))) (As := []) (rest := []) hfix hN hK hP hD hS hA hl.1 (c_X3_lost l D cI cZ q (a_come (nI 1) a)) gL_comes_X3_lost rfl (by decide +kernel) rfl ⟨Nat.le_of_ble_eq_true rfl, Nat.le_of_ble_eq_true rfl⟩ [0, 1, 2, 3, 4, 5, 6, 7, 8] [] rfl rfl (by decide) (by decide) (by decide) 0 rfl rfl rfl (Nat.le_of_ble_eq_true rfl) ⟨Nat.le_of_ble_eq_true rfl, Nat.le_of_ble_eq_true rfl⟩ dL_comes_132 (fun r u H locs hw hP hD hS => ?_)
  obtain rfl : r = nI (a.1 6) := by
    have hw : r = nI ((a_come (nI 1) a).1 6) := hw
    rw [hw, g6]
  refine lv_iload hx hb dL_comes_135 (lv_at hl 4 rfl) ?_
  refine lv_icmp_ne (tgt := 155) hx hb dL_comes_137 (by decide) (fun h => absurd rfl h) (fun _ => ?_)
  refine lv_aload_n hx hb dL_comes_140 rfl (lv_at hl 6 rfl) ?_
  refine lv_iload hx hb dL_comes_141 (lv_at hl 2 rfl) ?_
  refine k_callXi (n := 1) (wr := []) (wc := (XWa cI cZ q (a_come (nI 1) a))) (As := [.int (nI 1)]) (rest := []) hfix hN hC hZ hK hP hD hS hA hl.1 (c_X3_has l D cI cZ hfl q (a_come (nI 1) a) (nI 1)) gL_comes_X3_has rfl (by decide +kernel) rfl ⟨Nat.le_of_ble_eq_true rfl, Nat.le_of_ble_eq_true rfl⟩ [0, 1, 2, 3, 4, 5, 6, 7, 8] [] rfl rfl (by decide) (by decide) (by decide) 0 rfl rfl rfl (Nat.le_of_ble_eq_true rfl) ⟨Nat.le_of_ble_eq_true rfl, Nat.le_of_ble_eq_true rfl⟩ dL_comes_143 (fun E ce q9 H locs hxe hP hD hS hz hce hcv hcl => absurd (by decide +kernel) hxe.2) (fun r u H locs hw hP hD hS => ?_)
  obtain rfl : r = (if a.2 2 (nI 1).toNatClampNeg = 0 then nI 0 else nI 1) := by
    rw [hw.2, g2]
  refine lv_iload hx hb dL_comes_146 (lv_at hl 1 rfl) ?_
  refine lv_icmp_ne (tgt := 155) hx hb dL_comes_148 (by decide) (fun h => absurd rfl h) (fun _ => ?_)
  refine lv_iconst (v := nI 1) hx hb dL_comes_151 (by decide) ?_
  refine lv_goto (tgt := 156) hx hb dL_comes_152 (by decide) ?_
  exact k_gret (g := 0) hx hb hr hlk (by decide) hS.1 hP hD hS dL_comes_156
