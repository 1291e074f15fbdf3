/-! refused: eighteen calls, each refused, and the digest as it was -/
set_option maxHeartbeats 4000000 in
set_option maxRecDepth 100000 in
theorem c_L_refused (l : Launch) (D : va_G) (cI cZ : ClassId) (hfl : l.stackTraces = false) (q : Nat → Nat) (a : AS) (hI : AI a) : kMg l yL_refused wsL_refused 9 220 172 1032 D (TY cI cZ) [.ref (q 0)] (XWa cI cZ q a) (XWa cI cZ q a) (nI 1) 18 := by
  intro sz
  refine k_ing (sz := sz) (Qc := fun A => va_Qi (fun (x : Int32) (_ : Unit) => x = nI 1) (gB D A (XWa cI cZ q a) (sz + 18)) A) (cc := cL_refused) (maxL := 3) (ret := (some .boolean)) (by decide) rfl (Nat.le_of_ble_eq_true rfl) ?_
  intro p e s m below meth c A ls hfix hr hlk hN hC hZ hsz hP hK hD hA hS hl
  subst hsz
  have hfix : CallFix p m c cL_refused 3 s [.ref (q 0)].toArray wsL_refused RL := hfix
  have hl : lv_has ls 3 [(0, .ref (q 0))] := hl
  obtain ⟨hx, hb, hml, hown, hts⟩ := id hfix
  refine lv_aload_n hx hb dL_refused_0 rfl (lv_at hl 0 rfl) ?_
  refine k_callSh (n := 1) (wr := []) (wc := (XWa cI cZ q a)) (As := [.ref (q 0)]) (rest := []) hfix hN hC hZ hK hP hD hS hA hl.1 (c_L_all l D cI cZ hfl q a hI) gL_refused_L_all rfl (by decide +kernel) rfl ⟨Nat.le_of_ble_eq_true rfl, Nat.le_of_ble_eq_true rfl⟩ [0, 1, 2, 3, 4, 5, 6, 7, 8] [] rfl rfl (by decide) (by decide) (by decide) rfl (Nat.le_of_ble_eq_true rfl) ⟨Nat.le_of_ble_eq_true rfl, Nat.le_of_ble_eq_true rfl⟩ dL_refused_1 (fun H locs hz hP hD hS => ?_)
  have hg : s.heap.size + 0 ≤ H.size := hz
  refine lv_lstore_n (lv' := [(1, .long (a_all a)), (0, .ref (q 0))]) hx hb dL_refused_4 rfl hl (by decide) rfl (fun ls hl => ?_)
  refine lv_aload_n hx hb dL_refused_5 rfl (lv_at hl 1 rfl) ?_
  refine lv_iconst (v := nI 0) hx hb dL_refused_6 (by decide) ?_
  refine lv_iconst (v := nI 0) hx hb dL_refused_7 (by decide) ?_
  refine lv_iconst (v := nI 1) hx hb dL_refused_8 (by decide) ?_
  refine lv_iconst (v := nI 1) hx hb dL_refused_9 (by decide) ?_
  refine lv_iconst (v := nI 1) hx hb dL_refused_10 (by decide) ?_
  refine k_callWg (n := 6) (wr := []) (wc := (XWa cI cZ q a)) (As := [.ref (q 0), .int (nI 0), .int (nI 0), .int (nI 1), .int (nI 1), .int (nI 1)]) (rest := []) hfix hN hC hZ hK hP hD hS hA hl.1 (c_L_call_iae l D cI cZ q a (nI 0) (nI 0) (nI 1) (nI 1) (nI 1) (c_L_does_set l D cI cZ hfl q a hI (nI 0) (nI 1) (nI 1) (nI 1) (by decide +kernel))) gL_refused_L_call rfl (by decide +kernel) rfl ⟨Nat.le_of_ble_eq_true rfl, Nat.le_of_ble_eq_true rfl⟩ [0, 1, 2, 3, 4, 5, 6, 7, 8] [] rfl rfl (by decide) (by decide) (by decide) rfl (Nat.le_of_ble_eq_true rfl) ⟨Nat.le_of_ble_eq_true rfl, Nat.le_of_ble_eq_true rfl⟩ dL_refused_11 (fun H locs hz hP hD hS => ?_)
  have hg : s.heap.size + 1 ≤ H.size := by omega
  refine lv_bipush (v := (-72 : Int32)) hx hb dL_refused_14 (by decide) ?_
  refine lv_icmp_ne (tgt := 289) hx hb dL_refused_16 (by decide) (fun h => absurd rfl h) (fun _ => ?_)
  refine lv_aload_n hx hb dL_refused_19 rfl (lv_at hl 1 rfl) ?_
  refine lv_iconst (v := nI 0) hx hb dL_refused_20 (by decide) ?_
  refine lv_iconst (v := nI 5) hx hb dL_refused_21 (by decide) ?_
  refine lv_bipush (v := nI 33) hx hb dL_refused_22 (by decide) ?_
  refine lv_iconst (v := nI 1) hx hb dL_refused_24 (by decide) ?_
  refine lv_iconst (v := nI 1) hx hb dL_refused_25 (by decide) ?_
  refine k_callWg (n := 6) (wr := []) (wc := (XWa cI cZ q a)) (As := [.ref (q 0), .int (nI 0), .int (nI 5), .int (nI 33), .int (nI 1), .int (nI 1)]) (rest := []) hfix hN hC hZ hK hP hD hS hA hl.1 (c_L_call_iae l D cI cZ q a (nI 0) (nI 5) (nI 33) (nI 1) (nI 1) (c_L_does_set l D cI cZ hfl q a hI (nI 5) (nI 33) (nI 1) (nI 1) (by decide +kernel))) gL_refused_L_call rfl (by decide +kernel) rfl ⟨Nat.le_of_ble_eq_true rfl, Nat.le_of_ble_eq_true rfl⟩ [0, 1, 2, 3, 4, 5, 6, 7, 8] [] rfl rfl (by decide) (by decide) (by decide) rfl (Nat.le_of_ble_eq_true rfl) ⟨Nat.le_of_ble_eq_true rfl, Nat.le_of_ble_eq_true rfl⟩ dL_refused_26 (fun H locs hz hP hD hS => ?_)
  have hg : s.heap.size + 2 ≤ H.size := by omega
  refine lv_bipush (v := (-72 : Int32)) hx hb dL_refused_29 (by decide) ?_
  refine lv_icmp_ne (tgt := 289) hx hb dL_refused_31 (by decide) (fun h => absurd rfl h) (fun _ => ?_)
  refine lv_aload_n hx hb dL_refused_34 rfl (lv_at hl 1 rfl) ?_
  refine lv_iconst (v := nI 0) hx hb dL_refused_35 (by decide) ?_
  refine lv_iconst (v := nI 5) hx hb dL_refused_36 (by decide) ?_
  refine lv_iconst (v := nI 5) hx hb dL_refused_37 (by decide) ?_
  refine lv_bipush (v := nI 51) hx hb dL_refused_38 (by decide) ?_
  refine lv_iconst (v := nI 1) hx hb dL_refused_40 (by decide) ?_
  refine k_callWg (n := 6) (wr := []) (wc := (XWa cI cZ q a)) (As := [.ref (q 0), .int (nI 0), .int (nI 5), .int (nI 5), .int (nI 51), .int (nI 1)]) (rest := []) hfix hN hC hZ hK hP hD hS hA hl.1 (c_L_call_iae l D cI cZ q a (nI 0) (nI 5) (nI 5) (nI 51) (nI 1) (c_L_does_set l D cI cZ hfl q a hI (nI 5) (nI 5) (nI 51) (nI 1) (by decide +kernel))) gL_refused_L_call rfl (by decide +kernel) rfl ⟨Nat.le_of_ble_eq_true rfl, Nat.le_of_ble_eq_true rfl⟩ [0, 1, 2, 3, 4, 5, 6, 7, 8] [] rfl rfl (by decide) (by decide) (by decide) rfl (Nat.le_of_ble_eq_true rfl) ⟨Nat.le_of_ble_eq_true rfl, Nat.le_of_ble_eq_true rfl⟩ dL_refused_41 (fun H locs hz hP hD hS => ?_)
  have hg : s.heap.size + 3 ≤ H.size := by omega
  refine lv_bipush (v := (-72 : Int32)) hx hb dL_refused_44 (by decide) ?_
  refine lv_icmp_ne (tgt := 289) hx hb dL_refused_46 (by decide) (fun h => absurd rfl h) (fun _ => ?_)
  refine lv_aload_n hx hb dL_refused_49 rfl (lv_at hl 1 rfl) ?_
  refine lv_iconst (v := nI 0) hx hb dL_refused_50 (by decide) ?_
  refine lv_iconst (v := nI 5) hx hb dL_refused_51 (by decide) ?_
  refine lv_iconst (v := nI 5) hx hb dL_refused_52 (by decide) ?_
  refine lv_iconst (v := nI 5) hx hb dL_refused_53 (by decide) ?_
  refine lv_iconst (v := nI 0) hx hb dL_refused_54 (by decide) ?_
  refine k_callWg (n := 6) (wr := []) (wc := (XWa cI cZ q a)) (As := [.ref (q 0), .int (nI 0), .int (nI 5), .int (nI 5), .int (nI 5), .int (nI 0)]) (rest := []) hfix hN hC hZ hK hP hD hS hA hl.1 (c_L_call_iae l D cI cZ q a (nI 0) (nI 5) (nI 5) (nI 5) (nI 0) (c_L_does_set l D cI cZ hfl q a hI (nI 5) (nI 5) (nI 5) (nI 0) (by decide +kernel))) gL_refused_L_call rfl (by decide +kernel) rfl ⟨Nat.le_of_ble_eq_true rfl, Nat.le_of_ble_eq_true rfl⟩ [0, 1, 2, 3, 4, 5, 6, 7, 8] [] rfl rfl (by decide) (by decide) (by decide) rfl (Nat.le_of_ble_eq_true rfl) ⟨Nat.le_of_ble_eq_true rfl, Nat.le_of_ble_eq_true rfl⟩ dL_refused_55 (fun H locs hz hP hD hS => ?_)
  have hg : s.heap.size + 4 ≤ H.size := by omega
  refine lv_bipush (v := (-72 : Int32)) hx hb dL_refused_58 (by decide) ?_
  refine lv_icmp_ne (tgt := 289) hx hb dL_refused_60 (by decide) (fun h => absurd rfl h) (fun _ => ?_)
  refine lv_aload_n hx hb dL_refused_63 rfl (lv_at hl 1 rfl) ?_
  refine lv_iconst (v := nI 1) hx hb dL_refused_64 (by decide) ?_
  refine lv_sipush (v := nI 300) hx hb dL_refused_65 (by decide) ?_
  refine lv_iconst (v := nI 0) hx hb dL_refused_68 (by decide) ?_
  refine lv_iconst (v := nI 0) hx hb dL_refused_69 (by decide) ?_
  refine lv_iconst (v := nI 0) hx hb dL_refused_70 (by decide) ?_
  refine k_callWg (n := 6) (wr := []) (wc := (XWa cI cZ q a)) (As := [.ref (q 0), .int (nI 1), .int (nI 300), .int (nI 0), .int (nI 0), .int (nI 0)]) (rest := []) hfix hN hC hZ hK hP hD hS hA hl.1 (c_L_call_ioe l D cI cZ q a (nI 1) (nI 300) (nI 0) (nI 0) (nI 0) (c_L_does_arrive l D cI cZ hfl q a hI (nI 300) (nI 0) (nI 0) (nI 0) (by decide +kernel))) gL_refused_L_call rfl (by decide +kernel) rfl ⟨Nat.le_of_ble_eq_true rfl, Nat.le_of_ble_eq_true rfl⟩ [0, 1, 2, 3, 4, 5, 6, 7, 8] [] rfl rfl (by decide) (by decide) (by decide) rfl (Nat.le_of_ble_eq_true rfl) ⟨Nat.le_of_ble_eq_true rfl, Nat.le_of_ble_eq_true rfl⟩ dL_refused_71 (fun H locs hz hP hD hS => ?_)
  have hg : s.heap.size + 5 ≤ H.size := by omega
  refine lv_bipush (v := (-71 : Int32)) hx hb dL_refused_74 (by decide) ?_
  refine lv_icmp_ne (tgt := 289) hx hb dL_refused_76 (by decide) (fun h => absurd rfl h) (fun _ => ?_)
  refine lv_aload_n hx hb dL_refused_79 rfl (lv_at hl 1 rfl) ?_
  refine lv_iconst (v := nI 1) hx hb dL_refused_80 (by decide) ?_
  refine lv_iconst (v := (-1 : Int32)) hx hb dL_refused_81 (by decide) ?_
  refine lv_iconst (v := nI 0) hx hb dL_refused_82 (by decide) ?_
  refine lv_iconst (v := nI 0) hx hb dL_refused_83 (by decide) ?_
  refine lv_iconst (v := nI 0) hx hb dL_refused_84 (by decide) ?_
  refine k_callWg (n := 6) (wr := []) (wc := (XWa cI cZ q a)) (As := [.ref (q 0), .int (nI 1), .int ((-1 : Int32)), .int (nI 0), .int (nI 0), .int (nI 0)]) (rest := []) hfix hN hC hZ hK hP hD hS hA hl.1 (c_L_call_ioe l D cI cZ q a (nI 1) (-1 : Int32) (nI 0) (nI 0) (nI 0) (c_L_does_arrive l D cI cZ hfl q a hI (-1 : Int32) (nI 0) (nI 0) (nI 0) (by decide +kernel))) gL_refused_L_call rfl (by decide +kernel) rfl ⟨Nat.le_of_ble_eq_true rfl, Nat.le_of_ble_eq_true rfl⟩ [0, 1, 2, 3, 4, 5, 6, 7, 8] [] rfl rfl (by decide) (by decide) (by decide) rfl (Nat.le_of_ble_eq_true rfl) ⟨Nat.le_of_ble_eq_true rfl, Nat.le_of_ble_eq_true rfl⟩ dL_refused_85 (fun H locs hz hP hD hS => ?_)
  have hg : s.heap.size + 6 ≤ H.size := by omega
  refine lv_bipush (v := (-71 : Int32)) hx hb dL_refused_88 (by decide) ?_
  refine lv_icmp_ne (tgt := 289) hx hb dL_refused_90 (by decide) (fun h => absurd rfl h) (fun _ => ?_)
  refine lv_aload_n hx hb dL_refused_93 rfl (lv_at hl 1 rfl) ?_
  refine lv_iconst (v := nI 2) hx hb dL_refused_94 (by decide) ?_
  refine lv_sipush (v := nI 299) hx hb dL_refused_95 (by decide) ?_
  refine lv_iconst (v := nI 2) hx hb dL_refused_98 (by decide) ?_
  refine lv_iconst (v := nI 0) hx hb dL_refused_99 (by decide) ?_
  refine lv_iconst (v := nI 0) hx hb dL_refused_100 (by decide) ?_
  refine k_callWg (n := 6) (wr := []) (wc := (XWa cI cZ q a)) (As := [.ref (q 0), .int (nI 2), .int (nI 299), .int (nI 2), .int (nI 0), .int (nI 0)]) (rest := []) hfix hN hC hZ hK hP hD hS hA hl.1 (c_L_call_ioe l D cI cZ q a (nI 2) (nI 299) (nI 2) (nI 0) (nI 0) (c_L_does_arriveRow0 l D cI cZ hfl q a hI (nI 299) (nI 2) (nI 0) (nI 0) (by decide +kernel))) gL_refused_L_call rfl (by decide +kernel) rfl ⟨Nat.le_of_ble_eq_true rfl, Nat.le_of_ble_eq_true rfl⟩ [0, 1, 2, 3, 4, 5, 6, 7, 8] [] rfl rfl (by decide) (by decide) (by decide) rfl (Nat.le_of_ble_eq_true rfl) ⟨Nat.le_of_ble_eq_true rfl, Nat.le_of_ble_eq_true rfl⟩ dL_refused_101 (fun H locs hz hP hD hS => ?_)
  have hg : s.heap.size + 7 ≤ H.size := by omega
  refine lv_bipush (v := (-71 : Int32)) hx hb dL_refused_104 (by decide) ?_
  refine lv_icmp_ne (tgt := 289) hx hb dL_refused_106 (by decide) (fun h => absurd rfl h) (fun _ => ?_)
  refine lv_aload_n hx hb dL_refused_109 rfl (lv_at hl 1 rfl) ?_
  refine lv_iconst (v := nI 2) hx hb dL_refused_110 (by decide) ?_
  refine lv_iconst (v := (-1 : Int32)) hx hb dL_refused_111 (by decide) ?_
  refine lv_iconst (v := nI 2) hx hb dL_refused_112 (by decide) ?_
  refine lv_iconst (v := nI 0) hx hb dL_refused_113 (by decide) ?_
  refine lv_iconst (v := nI 0) hx hb dL_refused_114 (by decide) ?_
  refine k_callWg (n := 6) (wr := []) (wc := (XWa cI cZ q a)) (As := [.ref (q 0), .int (nI 2), .int ((-1 : Int32)), .int (nI 2), .int (nI 0), .int (nI 0)]) (rest := []) hfix hN hC hZ hK hP hD hS hA hl.1 (c_L_call_ioe l D cI cZ q a (nI 2) (-1 : Int32) (nI 2) (nI 0) (nI 0) (c_L_does_arriveRow0 l D cI cZ hfl q a hI (-1 : Int32) (nI 2) (nI 0) (nI 0) (by decide +kernel))) gL_refused_L_call rfl (by decide +kernel) rfl ⟨Nat.le_of_ble_eq_true rfl, Nat.le_of_ble_eq_true rfl⟩ [0, 1, 2, 3, 4, 5, 6, 7, 8] [] rfl rfl (by decide) (by decide) (by decide) rfl (Nat.le_of_ble_eq_true rfl) ⟨Nat.le_of_ble_eq_true rfl, Nat.le_of_ble_eq_true rfl⟩ dL_refused_115 (fun H locs hz hP hD hS => ?_)
  have hg : s.heap.size + 8 ≤ H.size := by omega
  refine lv_bipush (v := (-71 : Int32)) hx hb dL_refused_118 (by decide) ?_
  refine lv_icmp_ne (tgt := 289) hx hb dL_refused_120 (by decide) (fun h => absurd rfl h) (fun _ => ?_)
  refine lv_aload_n hx hb dL_refused_123 rfl (lv_at hl 1 rfl) ?_
  refine lv_iconst (v := nI 2) hx hb dL_refused_124 (by decide) ?_
  refine lv_iconst (v := nI 5) hx hb dL_refused_125 (by decide) ?_
  refine lv_iconst (v := nI 0) hx hb dL_refused_126 (by decide) ?_
  refine lv_iconst (v := nI 0) hx hb dL_refused_127 (by decide) ?_
  refine lv_iconst (v := nI 0) hx hb dL_refused_128 (by decide) ?_
  refine k_callWg (n := 6) (wr := []) (wc := (XWa cI cZ q a)) (As := [.ref (q 0), .int (nI 2), .int (nI 5), .int (nI 0), .int (nI 0), .int (nI 0)]) (rest := []) hfix hN hC hZ hK hP hD hS hA hl.1 (c_L_call_iae l D cI cZ q a (nI 2) (nI 5) (nI 0) (nI 0) (nI 0) (c_L_does_arriveRow1 l D cI cZ hfl q a hI (nI 5) (nI 0) (nI 0) (nI 0) (by decide +kernel))) gL_refused_L_call rfl (by decide +kernel) rfl ⟨Nat.le_of_ble_eq_true rfl, Nat.le_of_ble_eq_true rfl⟩ [0, 1, 2, 3, 4, 5, 6, 7, 8] [] rfl rfl (by decide) (by decide) (by decide) rfl (Nat.le_of_ble_eq_true rfl) ⟨Nat.le_of_ble_eq_true rfl, Nat.le_of_ble_eq_true rfl⟩ dL_refused_129 (fun H locs hz hP hD hS => ?_)
  have hg : s.heap.size + 9 ≤ H.size := by omega
  refine lv_bipush (v := (-72 : Int32)) hx hb dL_refused_132 (by decide) ?_
  refine lv_icmp_ne (tgt := 289) hx hb dL_refused_134 (by decide) (fun h => absurd rfl h) (fun _ => ?_)
  refine lv_aload_n hx hb dL_refused_137 rfl (lv_at hl 1 rfl) ?_
  refine lv_iconst (v := nI 2) hx hb dL_refused_138 (by decide) ?_
  refine lv_iconst (v := nI 5) hx hb dL_refused_139 (by decide) ?_
  refine lv_bipush (v := nI 31) hx hb dL_refused_140 (by decide) ?_
  refine lv_iconst (v := nI 0) hx hb dL_refused_142 (by decide) ?_
  refine lv_iconst (v := nI 0) hx hb dL_refused_143 (by decide) ?_
  refine k_callWg (n := 6) (wr := []) (wc := (XWa cI cZ q a)) (As := [.ref (q 0), .int (nI 2), .int (nI 5), .int (nI 31), .int (nI 0), .int (nI 0)]) (rest := []) hfix hN hC hZ hK hP hD hS hA hl.1 (c_L_call_iae l D cI cZ q a (nI 2) (nI 5) (nI 31) (nI 0) (nI 0) (c_L_does_arriveRow1 l D cI cZ hfl q a hI (nI 5) (nI 31) (nI 0) (nI 0) (by decide +kernel))) gL_refused_L_call rfl (by decide +kernel) rfl ⟨Nat.le_of_ble_eq_true rfl, Nat.le_of_ble_eq_true rfl⟩ [0, 1, 2, 3, 4, 5, 6, 7, 8] [] rfl rfl (by decide) (by decide) (by decide) rfl (Nat.le_of_ble_eq_true rfl) ⟨Nat.le_of_ble_eq_true rfl, Nat.le_of_ble_eq_true rfl⟩ dL_refused_144 (fun H locs hz hP hD hS => ?_)
  have hg : s.heap.size + 10 ≤ H.size := by omega
  refine lv_bipush (v := (-72 : Int32)) hx hb dL_refused_147 (by decide) ?_
  refine lv_icmp_ne (tgt := 289) hx hb dL_refused_149 (by decide) (fun h => absurd rfl h) (fun _ => ?_)
  refine lv_aload_n hx hb dL_refused_152 rfl (lv_at hl 1 rfl) ?_
  refine lv_iconst (v := nI 3) hx hb dL_refused_153 (by decide) ?_
  refine lv_iconst (v := nI 0) hx hb dL_refused_154 (by decide) ?_
  refine lv_iconst (v := nI 0) hx hb dL_refused_155 (by decide) ?_
  refine lv_iconst (v := nI 0) hx hb dL_refused_156 (by decide) ?_
  refine lv_iconst (v := nI 0) hx hb dL_refused_157 (by decide) ?_
  refine k_callWg (n := 6) (wr := []) (wc := (XWa cI cZ q a)) (As := [.ref (q 0), .int (nI 3), .int (nI 0), .int (nI 0), .int (nI 0), .int (nI 0)]) (rest := []) hfix hN hC hZ hK hP hD hS hA hl.1 (c_L_call_iae l D cI cZ q a (nI 3) (nI 0) (nI 0) (nI 0) (nI 0) (c_L_does_advance l D cI cZ hfl q a hI (nI 0) (nI 0) (nI 0) (nI 0) (by decide +kernel))) gL_refused_L_call rfl (by decide +kernel) rfl ⟨Nat.le_of_ble_eq_true rfl, Nat.le_of_ble_eq_true rfl⟩ [0, 1, 2, 3, 4, 5, 6, 7, 8] [] rfl rfl (by decide) (by decide) (by decide) rfl (Nat.le_of_ble_eq_true rfl) ⟨Nat.le_of_ble_eq_true rfl, Nat.le_of_ble_eq_true rfl⟩ dL_refused_158 (fun H locs hz hP hD hS => ?_)
  have hg : s.heap.size + 11 ≤ H.size := by omega
  refine lv_bipush (v := (-72 : Int32)) hx hb dL_refused_161 (by decide) ?_
  refine lv_icmp_ne (tgt := 289) hx hb dL_refused_163 (by decide) (fun h => absurd rfl h) (fun _ => ?_)
  refine lv_aload_n hx hb dL_refused_166 rfl (lv_at hl 1 rfl) ?_
  refine lv_iconst (v := nI 3) hx hb dL_refused_167 (by decide) ?_
  refine lv_bipush (v := nI 101) hx hb dL_refused_168 (by decide) ?_
  refine lv_iconst (v := nI 0) hx hb dL_refused_170 (by decide) ?_
  refine lv_iconst (v := nI 0) hx hb dL_refused_171 (by decide) ?_
  refine lv_iconst (v := nI 0) hx hb dL_refused_172 (by decide) ?_
  refine k_callWg (n := 6) (wr := []) (wc := (XWa cI cZ q a)) (As := [.ref (q 0), .int (nI 3), .int (nI 101), .int (nI 0), .int (nI 0), .int (nI 0)]) (rest := []) hfix hN hC hZ hK hP hD hS hA hl.1 (c_L_call_iae l D cI cZ q a (nI 3) (nI 101) (nI 0) (nI 0) (nI 0) (c_L_does_advance l D cI cZ hfl q a hI (nI 101) (nI 0) (nI 0) (nI 0) (by decide +kernel))) gL_refused_L_call rfl (by decide +kernel) rfl ⟨Nat.le_of_ble_eq_true rfl, Nat.le_of_ble_eq_true rfl⟩ [0, 1, 2, 3, 4, 5, 6, 7, 8] [] rfl rfl (by decide) (by decide) (by decide) rfl (Nat.le_of_ble_eq_true rfl) ⟨Nat.le_of_ble_eq_true rfl, Nat.le_of_ble_eq_true rfl⟩ dL_refused_173 (fun H locs hz hP hD hS => ?_)
  have hg : s.heap.size + 12 ≤ H.size := by omega
  refine lv_bipush (v := (-72 : Int32)) hx hb dL_refused_176 (by decide) ?_
  refine lv_icmp_ne (tgt := 289) hx hb dL_refused_178 (by decide) (fun h => absurd rfl h) (fun _ => ?_)
  refine lv_aload_n hx hb dL_refused_181 rfl (lv_at hl 1 rfl) ?_
  refine lv_iconst (v := nI 4) hx hb dL_refused_182 (by decide) ?_
  refine lv_sipush (v := nI 300) hx hb dL_refused_183 (by decide) ?_
  refine lv_iconst (v := nI 0) hx hb dL_refused_186 (by decide) ?_
  refine lv_iconst (v := nI 0) hx hb dL_refused_187 (by decide) ?_
  refine lv_iconst (v := nI 0) hx hb dL_refused_188 (by decide) ?_
  refine k_callWg (n := 6) (wr := []) (wc := (XWa cI cZ q a)) (As := [.ref (q 0), .int (nI 4), .int (nI 300), .int (nI 0), .int (nI 0), .int (nI 0)]) (rest := []) hfix hN hC hZ hK hP hD hS hA hl.1 (c_L_call_ioe l D cI cZ q a (nI 4) (nI 300) (nI 0) (nI 0) (nI 0) (c_L_does_has l D cI cZ hfl q a hI (nI 300) (nI 0) (nI 0) (nI 0) (by decide +kernel))) gL_refused_L_call rfl (by decide +kernel) rfl ⟨Nat.le_of_ble_eq_true rfl, Nat.le_of_ble_eq_true rfl⟩ [0, 1, 2, 3, 4, 5, 6, 7, 8] [] rfl rfl (by decide) (by decide) (by decide) rfl (Nat.le_of_ble_eq_true rfl) ⟨Nat.le_of_ble_eq_true rfl, Nat.le_of_ble_eq_true rfl⟩ dL_refused_189 (fun H locs hz hP hD hS => ?_)
  have hg : s.heap.size + 13 ≤ H.size := by omega
  refine lv_bipush (v := (-71 : Int32)) hx hb dL_refused_192 (by decide) ?_
  refine lv_icmp_ne (tgt := 289) hx hb dL_refused_194 (by decide) (fun h => absurd rfl h) (fun _ => ?_)
  refine lv_aload_n hx hb dL_refused_197 rfl (lv_at hl 1 rfl) ?_
  refine lv_iconst (v := nI 5) hx hb dL_refused_198 (by decide) ?_
  refine lv_aload_n hx hb dL_refused_199 rfl (lv_at hl 1 rfl) ?_
  refine k_callVz (n := 0) (wr := []) (wc := (XWa cI cZ q a)) (As := []) (rest := [.int (nI 5), .ref (q 0)]) hfix hN hK hP hD hS hA hl.1 (c_X3_asked l D cI cZ q a) gL_refused_X3_asked rfl (by decide +kernel) rfl ⟨Nat.le_of_ble_eq_true rfl, Nat.le_of_ble_eq_true rfl⟩ [0, 1, 2, 3, 4, 5, 6, 7, 8] [] rfl rfl (by decide) (by decide) (by decide) 0 rfl rfl rfl (Nat.le_of_ble_eq_true rfl) ⟨Nat.le_of_ble_eq_true rfl, Nat.le_of_ble_eq_true rfl⟩ dL_refused_200 (fun r9 u H locs hz hw9 hP hD hS => ?_)
  obtain rfl : r9 = nI (a.1 8) := hw9
  have hg : s.heap.size + 13 ≤ H.size := Nat.le_trans hg hz
  refine lv_iconst (v := nI 0) hx hb dL_refused_203 (by decide) ?_
  refine lv_iconst (v := nI 0) hx hb dL_refused_204 (by decide) ?_
  refine lv_iconst (v := nI 0) hx hb dL_refused_205 (by decide) ?_
  refine k_callWg (n := 6) (wr := []) (wc := (XWa cI cZ q a)) (As := [.ref (q 0), .int (nI 5), .int (nI (a.1 8)), .int (nI 0), .int (nI 0), .int (nI 0)]) (rest := []) hfix hN hC hZ hK hP hD hS hA hl.1 (c_L_call_ioe l D cI cZ q a (nI 5) (nI (a.1 8)) (nI 0) (nI 0) (nI 0) (c_L_does_askedAt l D cI cZ hfl q a hI (nI (a.1 8)) (nI 0) (nI 0) (nI 0) (fun h => Int32.lt_irrefl h.2))) gL_refused_L_call rfl (by decide +kernel) rfl ⟨Nat.le_of_ble_eq_true rfl, Nat.le_of_ble_eq_true rfl⟩ [0, 1, 2, 3, 4, 5, 6, 7, 8] [] rfl rfl (by decide) (by decide) (by decide) rfl (Nat.le_of_ble_eq_true rfl) ⟨Nat.le_of_ble_eq_true rfl, Nat.le_of_ble_eq_true rfl⟩ dL_refused_206 (fun H locs hz hP hD hS => ?_)
  have hg : s.heap.size + 14 ≤ H.size := by omega
  refine lv_bipush (v := (-71 : Int32)) hx hb dL_refused_209 (by decide) ?_
  refine lv_icmp_ne (tgt := 289) hx hb dL_refused_211 (by decide) (fun h => absurd rfl h) (fun _ => ?_)
  refine lv_aload_n hx hb dL_refused_214 rfl (lv_at hl 1 rfl) ?_
  refine lv_bipush (v := nI 6) hx hb dL_refused_215 (by decide) ?_
  refine lv_iconst (v := (-1 : Int32)) hx hb dL_refused_217 (by decide) ?_
  refine lv_iconst (v := nI 0) hx hb dL_refused_218 (by decide) ?_
  refine lv_iconst (v := nI 0) hx hb dL_refused_219 (by decide) ?_
  refine lv_iconst (v := nI 0) hx hb dL_refused_220 (by decide) ?_
  refine k_callWg (n := 6) (wr := []) (wc := (XWa cI cZ q a)) (As := [.ref (q 0), .int (nI 6), .int ((-1 : Int32)), .int (nI 0), .int (nI 0), .int (nI 0)]) (rest := []) hfix hN hC hZ hK hP hD hS hA hl.1 (c_L_call_ioe l D cI cZ q a (nI 6) (-1 : Int32) (nI 0) (nI 0) (nI 0) (c_L_does_kindOf l D cI cZ hfl q a hI (-1 : Int32) (nI 0) (nI 0) (nI 0) (by decide +kernel))) gL_refused_L_call rfl (by decide +kernel) rfl ⟨Nat.le_of_ble_eq_true rfl, Nat.le_of_ble_eq_true rfl⟩ [0, 1, 2, 3, 4, 5, 6, 7, 8] [] rfl rfl (by decide) (by decide) (by decide) rfl (Nat.le_of_ble_eq_true rfl) ⟨Nat.le_of_ble_eq_true rfl, Nat.le_of_ble_eq_true rfl⟩ dL_refused_221 (fun H locs hz hP hD hS => ?_)
  have hg : s.heap.size + 15 ≤ H.size := by omega
  refine lv_bipush (v := (-71 : Int32)) hx hb dL_refused_224 (by decide) ?_
  refine lv_icmp_ne (tgt := 289) hx hb dL_refused_226 (by decide) (fun h => absurd rfl h) (fun _ => ?_)
  refine lv_aload_n hx hb dL_refused_229 rfl (lv_at hl 1 rfl) ?_
  refine lv_bipush (v := nI 7) hx hb dL_refused_230 (by decide) ?_
  refine lv_bipush (v := nI 100) hx hb dL_refused_232 (by decide) ?_
  refine lv_iconst (v := nI 0) hx hb dL_refused_234 (by decide) ?_
  refine lv_iconst (v := nI 0) hx hb dL_refused_235 (by decide) ?_
  refine lv_iconst (v := nI 0) hx hb dL_refused_236 (by decide) ?_
  refine k_callWg (n := 6) (wr := []) (wc := (XWa cI cZ q a)) (As := [.ref (q 0), .int (nI 7), .int (nI 100), .int (nI 0), .int (nI 0), .int (nI 0)]) (rest := []) hfix hN hC hZ hK hP hD hS hA hl.1 (c_L_call_ioe l D cI cZ q a (nI 7) (nI 100) (nI 0) (nI 0) (nI 0) (c_L_does_need l D cI cZ hfl q a hI (nI 100) (nI 0) (nI 0) (by decide +kernel))) gL_refused_L_call rfl (by decide +kernel) rfl ⟨Nat.le_of_ble_eq_true rfl, Nat.le_of_ble_eq_true rfl⟩ [0, 1, 2, 3, 4, 5, 6, 7, 8] [] rfl rfl (by decide) (by decide) (by decide) rfl (Nat.le_of_ble_eq_true rfl) ⟨Nat.le_of_ble_eq_true rfl, Nat.le_of_ble_eq_true rfl⟩ dL_refused_237 (fun H locs hz hP hD hS => ?_)
  have hg : s.heap.size + 16 ≤ H.size := by omega
  refine lv_bipush (v := (-71 : Int32)) hx hb dL_refused_240 (by decide) ?_
  refine lv_icmp_ne (tgt := 289) hx hb dL_refused_242 (by decide) (fun h => absurd rfl h) (fun _ => ?_)
  refine lv_aload_n hx hb dL_refused_245 rfl (lv_at hl 1 rfl) ?_
  refine lv_bipush (v := nI 8) hx hb dL_refused_246 (by decide) ?_
  refine lv_bipush (v := nI 100) hx hb dL_refused_248 (by decide) ?_
  refine lv_iconst (v := nI 0) hx hb dL_refused_250 (by decide) ?_
  refine lv_iconst (v := nI 0) hx hb dL_refused_251 (by decide) ?_
  refine lv_iconst (v := nI 0) hx hb dL_refused_252 (by decide) ?_
  refine k_callWg (n := 6) (wr := []) (wc := (XWa cI cZ q a)) (As := [.ref (q 0), .int (nI 8), .int (nI 100), .int (nI 0), .int (nI 0), .int (nI 0)]) (rest := []) hfix hN hC hZ hK hP hD hS hA hl.1 (c_L_call_ioe l D cI cZ q a (nI 8) (nI 100) (nI 0) (nI 0) (nI 0) (c_L_does_isWhole l D cI cZ hfl q a hI (nI 100) (nI 0) (nI 0) (nI 0) (by decide +kernel))) gL_refused_L_call rfl (by decide +kernel) rfl ⟨Nat.le_of_ble_eq_true rfl, Nat.le_of_ble_eq_true rfl⟩ [0, 1, 2, 3, 4, 5, 6, 7, 8] [] rfl rfl (by decide) (by decide) (by decide) rfl (Nat.le_of_ble_eq_true rfl) ⟨Nat.le_of_ble_eq_true rfl, Nat.le_of_ble_eq_true rfl⟩ dL_refused_253 (fun H locs hz hP hD hS => ?_)
  have hg : s.heap.size + 17 ≤ H.size := by omega
  refine lv_bipush (v := (-71 : Int32)) hx hb dL_refused_256 (by decide) ?_
  refine lv_icmp_ne (tgt := 289) hx hb dL_refused_258 (by decide) (fun h => absurd rfl h) (fun _ => ?_)
  refine lv_aload_n hx hb dL_refused_261 rfl (lv_at hl 1 rfl) ?_
  refine lv_bipush (v := nI 9) hx hb dL_refused_262 (by decide) ?_
  refine lv_iconst (v := (-1 : Int32)) hx hb dL_refused_264 (by decide) ?_
  refine lv_iconst (v := nI 0) hx hb dL_refused_265 (by decide) ?_
  refine lv_iconst (v := nI 0) hx hb dL_refused_266 (by decide) ?_
  refine lv_iconst (v := nI 0) hx hb dL_refused_267 (by decide) ?_
  refine k_callWg (n := 6) (wr := []) (wc := (XWa cI cZ q a)) (As := [.ref (q 0), .int (nI 9), .int ((-1 : Int32)), .int (nI 0), .int (nI 0), .int (nI 0)]) (rest := []) hfix hN hC hZ hK hP hD hS hA hl.1 (c_L_call_ioe l D cI cZ q a (nI 9) (-1 : Int32) (nI 0) (nI 0) (nI 0) (c_L_does_fate l D cI cZ hfl q a hI (-1 : Int32) (nI 0) (nI 0) (nI 0) (by decide +kernel))) gL_refused_L_call rfl (by decide +kernel) rfl ⟨Nat.le_of_ble_eq_true rfl, Nat.le_of_ble_eq_true rfl⟩ [0, 1, 2, 3, 4, 5, 6, 7, 8] [] rfl rfl (by decide) (by decide) (by decide) rfl (Nat.le_of_ble_eq_true rfl) ⟨Nat.le_of_ble_eq_true rfl, Nat.le_of_ble_eq_true rfl⟩ dL_refused_268 (fun H locs hz hP hD hS => ?_)
  have hg : s.heap.size + 18 ≤ H.size := by omega
  refine lv_bipush (v := (-71 : Int32)) hx hb dL_refused_271 (by decide) ?_
  refine lv_icmp_ne (tgt := 289) hx hb dL_refused_273 (by decide) (fun h => absurd rfl h) (fun _ => ?_)
  refine lv_aload_n hx hb dL_refused_276 rfl (lv_at hl 1 rfl) ?_
  refine k_callSh (n := 1) (wr := []) (wc := (XWa cI cZ q a)) (As := [.ref (q 0)]) (rest := []) hfix hN hC hZ hK hP hD hS hA hl.1 (c_L_all l D cI cZ hfl q a hI) gL_refused_L_all rfl (by decide +kernel) rfl ⟨Nat.le_of_ble_eq_true rfl, Nat.le_of_ble_eq_true rfl⟩ [0, 1, 2, 3, 4, 5, 6, 7, 8] [] rfl rfl (by decide) (by decide) (by decide) rfl (Nat.le_of_ble_eq_true rfl) ⟨Nat.le_of_ble_eq_true rfl, Nat.le_of_ble_eq_true rfl⟩ dL_refused_277 (fun H locs hz hP hD hS => ?_)
  have hg : s.heap.size + 18 ≤ H.size := by omega
  refine lv_lload_n hx hb dL_refused_280 rfl (lv_at hl 0 rfl) ?_
  refine k_lcmp hx hb rfl dL_refused_281 ?_
  refine k_if_ne (tgt := 289) hx hb (by decide) dL_refused_282 (by decide) (fun h => absurd rfl h) (fun _ => ?_)
  refine lv_iconst (v := nI 1) hx hb dL_refused_285 (by decide) ?_
  refine lv_goto (tgt := 290) hx hb dL_refused_286 (by decide) ?_
  exact k_gret hx hb hr hlk (by decide) hg hP hD hS dL_refused_290
