/-! the law's own methods that refuse: does passes on what is thrown, call catches it -/
/-- does, at arguments that are refused: it throws E, and nothing else -/
def kDo (l : Launch) (D : va_G) (cI cZ : ClassId) (q : Nat → Nat) (a : AS) (k x y z w : Int32) (E : String) : Prop := kXi l yL_does wsL_does 7 160 D (TY cI cZ) [.ref (q 0), .int k, .int x, .int y, .int z, .int w] (XWa cI cZ q a) (fun (_ : Int32) (_ : Unit) => False) (fun _ : Unit => XWa cI cZ q a) (fun e => e = E)
set_option maxHeartbeats 4000000 in
set_option maxRecDepth 100000 in
theorem c_L_does_set (l : Launch) (D : va_G) (cI cZ : ClassId) (hfl : l.stackTraces = false) (q : Nat → Nat) (a : AS) (hI : AI a) (x y z w : Int32) (hne : ¬ (oneTo x 32 ∧ oneTo y 32 ∧ oneTo z 50 ∧ oneTo w 32)) : kDo l D cI cZ q a (nI 0) x y z w IAE := by
  intro sz
  refine k_inx (Qc := fun A => va_Qi (fun (_ : Int32) (_ : Unit) => False) (kB D A (fun _ : Unit => XWa cI cZ q a)) A) (XC := fun A => vx_X (fun _ : Unit => True) (xB D A (fun e => e = IAE) (XWa cI cZ q a)) A) (cc := cL_does) (maxL := 6) (ret := (some .int)) (by decide) rfl (Nat.le_of_ble_eq_true rfl) ?_
  intro p e s m below meth c A ls hfix hr hlk hN hT hC hZ hP hK hD hA hS hl
  have hfix : CallFix p m c cL_does 6 s [.ref (q 0), .int (nI 0), .int x, .int y, .int z, .int w].toArray wsL_does RL := hfix
  have hl : lv_has ls 6 [(0, .ref (q 0)), (1, .int (nI 0)), (2, .int x), (3, .int y), (4, .int z), (5, .int w)] := hl
  obtain ⟨hx, hb, hml, hown, hts⟩ := id hfix
  refine lv_iload_n hx hb dL_does_0 rfl (lv_at hl 1 rfl) ?_
  refine lv_tableIn (off := 51) (tgt := 52) hx hb dL_does_1 (by decide) (by decide) (by decide) (by decide) ?_
  refine lv_aload_n hx hb dL_does_52 rfl (lv_at hl 0 rfl) ?_
  refine lv_iload_n hx hb dL_does_53 rfl (lv_at hl 2 rfl) ?_
  refine lv_iload_n hx hb dL_does_54 rfl (lv_at hl 3 rfl) ?_
  refine lv_iload hx hb dL_does_55 (lv_at hl 4 rfl) ?_
  refine lv_iload hx hb dL_does_57 (lv_at hl 5 rfl) ?_
  refine k_callXv (n := 4) (wr := []) (wc := XWa cI cZ q a) (As := [.int x, .int y, .int z, .int w]) (rest := []) hfix hN hC hZ hK hP hD hS hA hl.1 (c_X3_set l D cI cZ hfl q a x y z w) gL_does_X3_set rfl (by decide +kernel) rfl ⟨Nat.le_of_ble_eq_true rfl, Nat.le_of_ble_eq_true rfl⟩ [0, 1, 2, 3, 4, 5, 6, 7, 8] [] rfl rfl (by decide) (by decide) (by decide) 0 rfl rfl rfl (Nat.le_of_ble_eq_true rfl) ⟨Nat.le_of_ble_eq_true rfl, Nat.le_of_ble_eq_true rfl⟩ dL_does_59 (fun E ce q9 H locs hxe hP hD hS hz hce hcv hcl => ?_) (fun u H locs hw hP hD hS => ?_)
  · refine vx_out (fun x h => (hT x h).elim) hlk hce hcv hcl (fun t ht _ => ?_) hS.2.2 (Nat.le_of_ble_eq_true rfl) (Nat.le_of_ble_eq_true rfl)
    have hxe : E = IAE := hxe.1
    exact ⟨(), trivial, ⟨hxe, by rw [ht]; exact hP, hD⟩, by rw [ht]; exact hz, fun q h1 h2 => by rw [ht]; exact hS.2.1 q h1 h2⟩
  · exact absurd hw hne
set_option maxHeartbeats 4000000 in
set_option maxRecDepth 100000 in
theorem c_L_does_arrive (l : Launch) (D : va_G) (cI cZ : ClassId) (hfl : l.stackTraces = false) (q : Nat → Nat) (a : AS) (hI : AI a) (x y z w : Int32) (hne : ¬ inR x 300) : kDo l D cI cZ q a (nI 1) x y z w IOE := by
  intro sz
  refine k_inx (Qc := fun A => va_Qi (fun (_ : Int32) (_ : Unit) => False) (kB D A (fun _ : Unit => XWa cI cZ q a)) A) (XC := fun A => vx_X (fun _ : Unit => True) (xB D A (fun e => e = IOE) (XWa cI cZ q a)) A) (cc := cL_does) (maxL := 6) (ret := (some .int)) (by decide) rfl (Nat.le_of_ble_eq_true rfl) ?_
  intro p e s m below meth c A ls hfix hr hlk hN hT hC hZ hP hK hD hA hS hl
  have hfix : CallFix p m c cL_does 6 s [.ref (q 0), .int (nI 1), .int x, .int y, .int z, .int w].toArray wsL_does RL := hfix
  have hl : lv_has ls 6 [(0, .ref (q 0)), (1, .int (nI 1)), (2, .int x), (3, .int y), (4, .int z), (5, .int w)] := hl
  obtain ⟨hx, hb, hml, hown, hts⟩ := id hfix
  refine lv_iload_n hx hb dL_does_0 rfl (lv_at hl 1 rfl) ?_
  refine lv_tableIn (off := 63) (tgt := 64) hx hb dL_does_1 (by decide) (by decide) (by decide) (by decide) ?_
  refine lv_aload_n hx hb dL_does_64 rfl (lv_at hl 0 rfl) ?_
  refine lv_iload_n hx hb dL_does_65 rfl (lv_at hl 2 rfl) ?_
  refine k_callXi (n := 1) (wr := []) (wc := XWa cI cZ q a) (As := [.int x]) (rest := []) hfix hN hC hZ hK hP hD hS hA hl.1 (c_X3_arrive l D cI cZ hfl q a hI x) gL_does_X3_arrive rfl (by decide +kernel) rfl ⟨Nat.le_of_ble_eq_true rfl, Nat.le_of_ble_eq_true rfl⟩ [0, 1, 2, 3, 4, 5, 6, 7, 8] [] rfl rfl (by decide) (by decide) (by decide) 0 rfl rfl rfl (Nat.le_of_ble_eq_true rfl) ⟨Nat.le_of_ble_eq_true rfl, Nat.le_of_ble_eq_true rfl⟩ dL_does_66 (fun E ce q9 H locs hxe hP hD hS hz hce hcv hcl => ?_) (fun r u H locs hw hP hD hS => ?_)
  · refine vx_out (fun x h => (hT x h).elim) hlk hce hcv hcl (fun t ht _ => ?_) hS.2.2 (Nat.le_of_ble_eq_true rfl) (Nat.le_of_ble_eq_true rfl)
    have hxe : E = IOE := hxe.1
    exact ⟨(), trivial, ⟨hxe, by rw [ht]; exact hP, hD⟩, by rw [ht]; exact hz, fun q h1 h2 => by rw [ht]; exact hS.2.1 q h1 h2⟩
  · exact absurd hw.1 hne
set_option maxHeartbeats 4000000 in
set_option maxRecDepth 100000 in
theorem c_L_does_arriveRow0 (l : Launch) (D : va_G) (cI cZ : ClassId) (hfl : l.stackTraces = false) (q : Nat → Nat) (a : AS) (hI : AI a) (x y z w : Int32) (hne : ¬ (inR x 300 ∧ y ≤ nI 300 - x)) : kDo l D cI cZ q a (nI 2) x y z w IOE := by
  intro sz
  refine k_inx (Qc := fun A => va_Qi (fun (_ : Int32) (_ : Unit) => False) (kB D A (fun _ : Unit => XWa cI cZ q a)) A) (XC := fun A => vx_X (fun _ : Unit => True) (xB D A (fun e => e = IOE) (XWa cI cZ q a)) A) (cc := cL_does) (maxL := 6) (ret := (some .int)) (by decide) rfl (Nat.le_of_ble_eq_true rfl) ?_
  intro p e s m below meth c A ls hfix hr hlk hN hT hC hZ hP hK hD hA hS hl
  have hfix : CallFix p m c cL_does 6 s [.ref (q 0), .int (nI 2), .int x, .int y, .int z, .int w].toArray wsL_does RL := hfix
  have hl : lv_has ls 6 [(0, .ref (q 0)), (1, .int (nI 2)), (2, .int x), (3, .int y), (4, .int z), (5, .int w)] := hl
  obtain ⟨hx, hb, hml, hown, hts⟩ := id hfix
  refine lv_iload_n hx hb dL_does_0 rfl (lv_at hl 1 rfl) ?_
  refine lv_tableIn (off := 69) (tgt := 70) hx hb dL_does_1 (by decide) (by decide) (by decide) (by decide) ?_
  refine lv_aload_n hx hb dL_does_70 rfl (lv_at hl 0 rfl) ?_
  refine lv_iload_n hx hb dL_does_71 rfl (lv_at hl 2 rfl) ?_
  refine lv_iload_n hx hb dL_does_72 rfl (lv_at hl 3 rfl) ?_
  refine k_callXi (n := 2) (wr := []) (wc := XWa cI cZ q a) (As := [.int x, .int y]) (rest := []) hfix hN hC hZ hK hP hD hS hA hl.1 (c_X3_arriveRow l D cI cZ hfl q a hI x y) gL_does_X3_arriveRow rfl (by decide +kernel) rfl ⟨Nat.le_of_ble_eq_true rfl, Nat.le_of_ble_eq_true rfl⟩ [0, 1, 2, 3, 4, 5, 6, 7, 8] [] rfl rfl (by decide) (by decide) (by decide) 0 rfl rfl rfl (Nat.le_of_ble_eq_true rfl) ⟨Nat.le_of_ble_eq_true rfl, Nat.le_of_ble_eq_true rfl⟩ dL_does_73 (fun E ce q9 H locs hxe hP hD hS hz hce hcv hcl => ?_) (fun r u H locs hw hP hD hS => ?_)
  · refine vx_out (fun x h => (hT x h).elim) hlk hce hcv hcl (fun t ht _ => ?_) hS.2.2 (Nat.le_of_ble_eq_true rfl) (Nat.le_of_ble_eq_true rfl)
    have hxe : E = IOE := (hxe.elim (fun h => h.1) (fun h => absurd h.2.1 hne))
    exact ⟨(), trivial, ⟨hxe, by rw [ht]; exact hP, hD⟩, by rw [ht]; exact hz, fun q h1 h2 => by rw [ht]; exact hS.2.1 q h1 h2⟩
  · exact absurd hw.1.1 hne
set_option maxHeartbeats 4000000 in
set_option maxRecDepth 100000 in
theorem c_L_does_arriveRow1 (l : Launch) (D : va_G) (cI cZ : ClassId) (hfl : l.stackTraces = false) (q : Nat → Nat) (a : AS) (hI : AI a) (x y z w : Int32) (hne : (inR x 300 ∧ y ≤ nI 300 - x) ∧ ¬ oneTo y 30) : kDo l D cI cZ q a (nI 2) x y z w IAE := by
  intro sz
  refine k_inx (Qc := fun A => va_Qi (fun (_ : Int32) (_ : Unit) => False) (kB D A (fun _ : Unit => XWa cI cZ q a)) A) (XC := fun A => vx_X (fun _ : Unit => True) (xB D A (fun e => e = IAE) (XWa cI cZ q a)) A) (cc := cL_does) (maxL := 6) (ret := (some .int)) (by decide) rfl (Nat.le_of_ble_eq_true rfl) ?_
  intro p e s m below meth c A ls hfix hr hlk hN hT hC hZ hP hK hD hA hS hl
  have hfix : CallFix p m c cL_does 6 s [.ref (q 0), .int (nI 2), .int x, .int y, .int z, .int w].toArray wsL_does RL := hfix
  have hl : lv_has ls 6 [(0, .ref (q 0)), (1, .int (nI 2)), (2, .int x), (3, .int y), (4, .int z), (5, .int w)] := hl
  obtain ⟨hx, hb, hml, hown, hts⟩ := id hfix
  refine lv_iload_n hx hb dL_does_0 rfl (lv_at hl 1 rfl) ?_
  refine lv_tableIn (off := 69) (tgt := 70) hx hb dL_does_1 (by decide) (by decide) (by decide) (by decide) ?_
  refine lv_aload_n hx hb dL_does_70 rfl (lv_at hl 0 rfl) ?_
  refine lv_iload_n hx hb dL_does_71 rfl (lv_at hl 2 rfl) ?_
  refine lv_iload_n hx hb dL_does_72 rfl (lv_at hl 3 rfl) ?_
  refine k_callXi (n := 2) (wr := []) (wc := XWa cI cZ q a) (As := [.int x, .int y]) (rest := []) hfix hN hC hZ hK hP hD hS hA hl.1 (c_X3_arriveRow l D cI cZ hfl q a hI x y) gL_does_X3_arriveRow rfl (by decide +kernel) rfl ⟨Nat.le_of_ble_eq_true rfl, Nat.le_of_ble_eq_true rfl⟩ [0, 1, 2, 3, 4, 5, 6, 7, 8] [] rfl rfl (by decide) (by decide) (by decide) 0 rfl rfl rfl (Nat.le_of_ble_eq_true rfl) ⟨Nat.le_of_ble_eq_true rfl, Nat.le_of_ble_eq_true rfl⟩ dL_does_73 (fun E ce q9 H locs hxe hP hD hS hz hce hcv hcl => ?_) (fun r u H locs hw hP hD hS => ?_)
  · refine vx_out (fun x h => (hT x h).elim) hlk hce hcv hcl (fun t ht _ => ?_) hS.2.2 (Nat.le_of_ble_eq_true rfl) (Nat.le_of_ble_eq_true rfl)
    have hxe : E = IAE := (hxe.elim (fun h => absurd hne.1 h.2) (fun h => h.1))
    exact ⟨(), trivial, ⟨hxe, by rw [ht]; exact hP, hD⟩, by rw [ht]; exact hz, fun q h1 h2 => by rw [ht]; exact hS.2.1 q h1 h2⟩
  · exact absurd hw.1.2 hne.2
set_option maxHeartbeats 4000000 in
set_option maxRecDepth 100000 in
theorem c_L_does_advance (l : Launch) (D : va_G) (cI cZ : ClassId) (hfl : l.stackTraces = false) (q : Nat → Nat) (a : AS) (hI : AI a) (x y z w : Int32) (hne : ¬ oneTo x 100) : kDo l D cI cZ q a (nI 3) x y z w IAE := by
  intro sz
  refine k_inx (Qc := fun A => va_Qi (fun (_ : Int32) (_ : Unit) => False) (kB D A (fun _ : Unit => XWa cI cZ q a)) A) (XC := fun A => vx_X (fun _ : Unit => True) (xB D A (fun e => e = IAE) (XWa cI cZ q a)) A) (cc := cL_does) (maxL := 6) (ret := (some .int)) (by decide) rfl (Nat.le_of_ble_eq_true rfl) ?_
  intro p e s m below meth c A ls hfix hr hlk hN hT hC hZ hP hK hD hA hS hl
  have hfix : CallFix p m c cL_does 6 s [.ref (q 0), .int (nI 3), .int x, .int y, .int z, .int w].toArray wsL_does RL := hfix
  have hl : lv_has ls 6 [(0, .ref (q 0)), (1, .int (nI 3)), (2, .int x), (3, .int y), (4, .int z), (5, .int w)] := hl
  obtain ⟨hx, hb, hml, hown, hts⟩ := id hfix
  refine lv_iload_n hx hb dL_does_0 rfl (lv_at hl 1 rfl) ?_
  refine lv_tableIn (off := 76) (tgt := 77) hx hb dL_does_1 (by decide) (by decide) (by decide) (by decide) ?_
  refine lv_aload_n hx hb dL_does_77 rfl (lv_at hl 0 rfl) ?_
  refine lv_iload_n hx hb dL_does_78 rfl (lv_at hl 2 rfl) ?_
  refine k_callXi (n := 1) (wr := []) (wc := XWa cI cZ q a) (As := [.int x]) (rest := []) hfix hN hC hZ hK hP hD hS hA hl.1 (c_X3_advance l D cI cZ hfl q a hI x) gL_does_X3_advance rfl (by decide +kernel) rfl ⟨Nat.le_of_ble_eq_true rfl, Nat.le_of_ble_eq_true rfl⟩ [0, 1, 2, 3, 4, 5, 6, 7, 8] [] rfl rfl (by decide) (by decide) (by decide) 0 rfl rfl rfl (Nat.le_of_ble_eq_true rfl) ⟨Nat.le_of_ble_eq_true rfl, Nat.le_of_ble_eq_true rfl⟩ dL_does_79 (fun E ce q9 H locs hxe hP hD hS hz hce hcv hcl => ?_) (fun r u H locs hw hP hD hS => ?_)
  · refine vx_out (fun x h => (hT x h).elim) hlk hce hcv hcl (fun t ht _ => ?_) hS.2.2 (Nat.le_of_ble_eq_true rfl) (Nat.le_of_ble_eq_true rfl)
    have hxe : E = IAE := (hxe.elim (fun h => h.1) (fun h => absurd h.2.1 hne))
    exact ⟨(), trivial, ⟨hxe, by rw [ht]; exact hP, hD⟩, by rw [ht]; exact hz, fun q h1 h2 => by rw [ht]; exact hS.2.1 q h1 h2⟩
  · exact absurd hw.1.1 hne
set_option maxHeartbeats 4000000 in
set_option maxRecDepth 100000 in
theorem c_L_does_has (l : Launch) (D : va_G) (cI cZ : ClassId) (hfl : l.stackTraces = false) (q : Nat → Nat) (a : AS) (hI : AI a) (x y z w : Int32) (hne : ¬ inR x 300) : kDo l D cI cZ q a (nI 4) x y z w IOE := by
  intro sz
  refine k_inx (Qc := fun A => va_Qi (fun (_ : Int32) (_ : Unit) => False) (kB D A (fun _ : Unit => XWa cI cZ q a)) A) (XC := fun A => vx_X (fun _ : Unit => True) (xB D A (fun e => e = IOE) (XWa cI cZ q a)) A) (cc := cL_does) (maxL := 6) (ret := (some .int)) (by decide) rfl (Nat.le_of_ble_eq_true rfl) ?_
  intro p e s m below meth c A ls hfix hr hlk hN hT hC hZ hP hK hD hA hS hl
  have hfix : CallFix p m c cL_does 6 s [.ref (q 0), .int (nI 4), .int x, .int y, .int z, .int w].toArray wsL_does RL := hfix
  have hl : lv_has ls 6 [(0, .ref (q 0)), (1, .int (nI 4)), (2, .int x), (3, .int y), (4, .int z), (5, .int w)] := hl
  obtain ⟨hx, hb, hml, hown, hts⟩ := id hfix
  refine lv_iload_n hx hb dL_does_0 rfl (lv_at hl 1 rfl) ?_
  refine lv_tableIn (off := 82) (tgt := 83) hx hb dL_does_1 (by decide) (by decide) (by decide) (by decide) ?_
  refine lv_aload_n hx hb dL_does_83 rfl (lv_at hl 0 rfl) ?_
  refine lv_iload_n hx hb dL_does_84 rfl (lv_at hl 2 rfl) ?_
  refine k_callXi (n := 1) (wr := []) (wc := XWa cI cZ q a) (As := [.int x]) (rest := []) hfix hN hC hZ hK hP hD hS hA hl.1 (c_X3_has l D cI cZ hfl q a x) gL_does_X3_has rfl (by decide +kernel) rfl ⟨Nat.le_of_ble_eq_true rfl, Nat.le_of_ble_eq_true rfl⟩ [0, 1, 2, 3, 4, 5, 6, 7, 8] [] rfl rfl (by decide) (by decide) (by decide) 0 rfl rfl rfl (Nat.le_of_ble_eq_true rfl) ⟨Nat.le_of_ble_eq_true rfl, Nat.le_of_ble_eq_true rfl⟩ dL_does_85 (fun E ce q9 H locs hxe hP hD hS hz hce hcv hcl => ?_) (fun r u H locs hw hP hD hS => ?_)
  · refine vx_out (fun x h => (hT x h).elim) hlk hce hcv hcl (fun t ht _ => ?_) hS.2.2 (Nat.le_of_ble_eq_true rfl) (Nat.le_of_ble_eq_true rfl)
    have hxe : E = IOE := hxe.1
    exact ⟨(), trivial, ⟨hxe, by rw [ht]; exact hP, hD⟩, by rw [ht]; exact hz, fun q h1 h2 => by rw [ht]; exact hS.2.1 q h1 h2⟩
  · exact absurd hw.1 hne
set_option maxHeartbeats 4000000 in
set_option maxRecDepth 100000 in
theorem c_L_does_askedAt (l : Launch) (D : va_G) (cI cZ : ClassId) (hfl : l.stackTraces = false) (q : Nat → Nat) (a : AS) (hI : AI a) (x y z w : Int32) (hne : ¬ (¬ x < 0 ∧ x < nI (a.1 8))) : kDo l D cI cZ q a (nI 5) x y z w IOE := by
  intro sz
  refine k_inx (Qc := fun A => va_Qi (fun (_ : Int32) (_ : Unit) => False) (kB D A (fun _ : Unit => XWa cI cZ q a)) A) (XC := fun A => vx_X (fun _ : Unit => True) (xB D A (fun e => e = IOE) (XWa cI cZ q a)) A) (cc := cL_does) (maxL := 6) (ret := (some .int)) (by decide) rfl (Nat.le_of_ble_eq_true rfl) ?_
  intro p e s m below meth c A ls hfix hr hlk hN hT hC hZ hP hK hD hA hS hl
  have hfix : CallFix p m c cL_does 6 s [.ref (q 0), .int (nI 5), .int x, .int y, .int z, .int w].toArray wsL_does RL := hfix
  have hl : lv_has ls 6 [(0, .ref (q 0)), (1, .int (nI 5)), (2, .int x), (3, .int y), (4, .int z), (5, .int w)] := hl
  obtain ⟨hx, hb, hml, hown, hts⟩ := id hfix
  refine lv_iload_n hx hb dL_does_0 rfl (lv_at hl 1 rfl) ?_
  refine lv_tableIn (off := 96) (tgt := 97) hx hb dL_does_1 (by decide) (by decide) (by decide) (by decide) ?_
  refine lv_aload_n hx hb dL_does_97 rfl (lv_at hl 0 rfl) ?_
  refine lv_iload_n hx hb dL_does_98 rfl (lv_at hl 2 rfl) ?_
  refine k_callXi (n := 1) (wr := []) (wc := XWa cI cZ q a) (As := [.int x]) (rest := []) hfix hN hC hZ hK hP hD hS hA hl.1 (c_X3_askedAt l D cI cZ hfl q a hI x) gL_does_X3_askedAt rfl (by decide +kernel) rfl ⟨Nat.le_of_ble_eq_true rfl, Nat.le_of_ble_eq_true rfl⟩ [0, 1, 2, 3, 4, 5, 6, 7, 8] [] rfl rfl (by decide) (by decide) (by decide) 0 rfl rfl rfl (Nat.le_of_ble_eq_true rfl) ⟨Nat.le_of_ble_eq_true rfl, Nat.le_of_ble_eq_true rfl⟩ dL_does_99 (fun E ce q9 H locs hxe hP hD hS hz hce hcv hcl => ?_) (fun r u H locs hw hP hD hS => ?_)
  · refine vx_out (fun x h => (hT x h).elim) hlk hce hcv hcl (fun t ht _ => ?_) hS.2.2 (Nat.le_of_ble_eq_true rfl) (Nat.le_of_ble_eq_true rfl)
    have hxe : E = IOE := hxe.1
    exact ⟨(), trivial, ⟨hxe, by rw [ht]; exact hP, hD⟩, by rw [ht]; exact hz, fun q h1 h2 => by rw [ht]; exact hS.2.1 q h1 h2⟩
  · exact absurd hw.1 hne
set_option maxHeartbeats 4000000 in
set_option maxRecDepth 100000 in
theorem c_L_does_kindOf (l : Launch) (D : va_G) (cI cZ : ClassId) (hfl : l.stackTraces = false) (q : Nat → Nat) (a : AS) (hI : AI a) (x y z w : Int32) (hne : ¬ inR x 100) : kDo l D cI cZ q a (nI 6) x y z w IOE := by
  intro sz
  refine k_inx (Qc := fun A => va_Qi (fun (_ : Int32) (_ : Unit) => False) (kB D A (fun _ : Unit => XWa cI cZ q a)) A) (XC := fun A => vx_X (fun _ : Unit => True) (xB D A (fun e => e = IOE) (XWa cI cZ q a)) A) (cc := cL_does) (maxL := 6) (ret := (some .int)) (by decide) rfl (Nat.le_of_ble_eq_true rfl) ?_
  intro p e s m below meth c A ls hfix hr hlk hN hT hC hZ hP hK hD hA hS hl
  have hfix : CallFix p m c cL_does 6 s [.ref (q 0), .int (nI 6), .int x, .int y, .int z, .int w].toArray wsL_does RL := hfix
  have hl : lv_has ls 6 [(0, .ref (q 0)), (1, .int (nI 6)), (2, .int x), (3, .int y), (4, .int z), (5, .int w)] := hl
  obtain ⟨hx, hb, hml, hown, hts⟩ := id hfix
  refine lv_iload_n hx hb dL_does_0 rfl (lv_at hl 1 rfl) ?_
  refine lv_tableIn (off := 102) (tgt := 103) hx hb dL_does_1 (by decide) (by decide) (by decide) (by decide) ?_
  refine lv_aload_n hx hb dL_does_103 rfl (lv_at hl 0 rfl) ?_
  refine lv_iload_n hx hb dL_does_104 rfl (lv_at hl 2 rfl) ?_
  refine k_callXi (n := 1) (wr := []) (wc := XWa cI cZ q a) (As := [.int x]) (rest := []) hfix hN hC hZ hK hP hD hS hA hl.1 (c_X3_kindOf l D cI cZ hfl q a x) gL_does_X3_kindOf rfl (by decide +kernel) rfl ⟨Nat.le_of_ble_eq_true rfl, Nat.le_of_ble_eq_true rfl⟩ [0, 1, 2, 3, 4, 5, 6, 7, 8] [] rfl rfl (by decide) (by decide) (by decide) 0 rfl rfl rfl (Nat.le_of_ble_eq_true rfl) ⟨Nat.le_of_ble_eq_true rfl, Nat.le_of_ble_eq_true rfl⟩ dL_does_105 (fun E ce q9 H locs hxe hP hD hS hz hce hcv hcl => ?_) (fun r u H locs hw hP hD hS => ?_)
  · refine vx_out (fun x h => (hT x h).elim) hlk hce hcv hcl (fun t ht _ => ?_) hS.2.2 (Nat.le_of_ble_eq_true rfl) (Nat.le_of_ble_eq_true rfl)
    have hxe : E = IOE := hxe.1
    exact ⟨(), trivial, ⟨hxe, by rw [ht]; exact hP, hD⟩, by rw [ht]; exact hz, fun q h1 h2 => by rw [ht]; exact hS.2.1 q h1 h2⟩
  · exact absurd hw.1 hne
set_option maxHeartbeats 4000000 in
set_option maxRecDepth 100000 in
theorem c_L_does_need (l : Launch) (D : va_G) (cI cZ : ClassId) (hfl : l.stackTraces = false) (q : Nat → Nat) (a : AS) (hI : AI a) (x z w : Int32) (hne : ¬ inR x 100) : kDo l D cI cZ q a (nI 7) x (nI 0) z w IOE := by
  intro sz
  refine k_inx (Qc := fun A => va_Qi (fun (_ : Int32) (_ : Unit) => False) (kB D A (fun _ : Unit => XWa cI cZ q a)) A) (XC := fun A => vx_X (fun _ : Unit => True) (xB D A (fun e => e = IOE) (XWa cI cZ q a)) A) (cc := cL_does) (maxL := 6) (ret := (some .int)) (by decide) rfl (Nat.le_of_ble_eq_true rfl) ?_
  intro p e s m below meth c A ls hfix hr hlk hN hT hC hZ hP hK hD hA hS hl
  have hfix : CallFix p m c cL_does 6 s [.ref (q 0), .int (nI 7), .int x, .int (nI 0), .int z, .int w].toArray wsL_does RL := hfix
  have hl : lv_has ls 6 [(0, .ref (q 0)), (1, .int (nI 7)), (2, .int x), (3, .int (nI 0)), (4, .int z), (5, .int w)] := hl
  obtain ⟨hx, hb, hml, hown, hts⟩ := id hfix
  refine lv_iload_n hx hb dL_does_0 rfl (lv_at hl 1 rfl) ?_
  refine lv_tableIn (off := 108) (tgt := 109) hx hb dL_does_1 (by decide) (by decide) (by decide) (by decide) ?_
  refine lv_aload_n hx hb dL_does_109 rfl (lv_at hl 0 rfl) ?_
  refine lv_iload_n hx hb dL_does_110 rfl (lv_at hl 2 rfl) ?_
  refine lv_iload_n hx hb dL_does_111 rfl (lv_at hl 3 rfl) ?_
  refine lv_iconst (v := nI 1) hx hb dL_does_112 (by decide) ?_
  refine k_icmp_ne (tgt := 120) hx hb (by decide) (by decide) dL_does_113 (by decide) (fun _ => ?_) (fun h => absurd h (by decide))
  refine lv_iconst (v := nI 0) hx hb dL_does_120 (by decide) ?_
  refine k_callXi (n := 2) (wr := []) (wc := XWa cI cZ q a) (As := [.int x, .int (nI 0)]) (rest := []) hfix hN hC hZ hK hP hD hS hA hl.1 (c_X3_need l D cI cZ hfl q a x (nI 0)) gL_does_X3_need rfl (by decide +kernel) rfl ⟨Nat.le_of_ble_eq_true rfl, Nat.le_of_ble_eq_true rfl⟩ [0, 1, 2, 3, 4, 5, 6, 7, 8] [] rfl rfl (by decide) (by decide) (by decide) 0 rfl rfl rfl (Nat.le_of_ble_eq_true rfl) ⟨Nat.le_of_ble_eq_true rfl, Nat.le_of_ble_eq_true rfl⟩ dL_does_121 (fun E ce q9 H locs hxe hP hD hS hz hce hcv hcl => ?_) (fun r u H locs hw hP hD hS => ?_)
  · refine vx_out (fun x h => (hT x h).elim) hlk hce hcv hcl (fun t ht _ => ?_) hS.2.2 (Nat.le_of_ble_eq_true rfl) (Nat.le_of_ble_eq_true rfl)
    have hxe : E = IOE := hxe.1
    exact ⟨(), trivial, ⟨hxe, by rw [ht]; exact hP, hD⟩, by rw [ht]; exact hz, fun q h1 h2 => by rw [ht]; exact hS.2.1 q h1 h2⟩
  · exact absurd hw.1 hne
set_option maxHeartbeats 4000000 in
set_option maxRecDepth 100000 in
theorem c_L_does_isWhole (l : Launch) (D : va_G) (cI cZ : ClassId) (hfl : l.stackTraces = false) (q : Nat → Nat) (a : AS) (hI : AI a) (x y z w : Int32) (hne : ¬ inR x 100) : kDo l D cI cZ q a (nI 8) x y z w IOE := by
  intro sz
  refine k_inx (Qc := fun A => va_Qi (fun (_ : Int32) (_ : Unit) => False) (kB D A (fun _ : Unit => XWa cI cZ q a)) A) (XC := fun A => vx_X (fun _ : Unit => True) (xB D A (fun e => e = IOE) (XWa cI cZ q a)) A) (cc := cL_does) (maxL := 6) (ret := (some .int)) (by decide) rfl (Nat.le_of_ble_eq_true rfl) ?_
  intro p e s m below meth c A ls hfix hr hlk hN hT hC hZ hP hK hD hA hS hl
  have hfix : CallFix p m c cL_does 6 s [.ref (q 0), .int (nI 8), .int x, .int y, .int z, .int w].toArray wsL_does RL := hfix
  have hl : lv_has ls 6 [(0, .ref (q 0)), (1, .int (nI 8)), (2, .int x), (3, .int y), (4, .int z), (5, .int w)] := hl
  obtain ⟨hx, hb, hml, hown, hts⟩ := id hfix
  refine lv_iload_n hx hb dL_does_0 rfl (lv_at hl 1 rfl) ?_
  refine lv_tableIn (off := 124) (tgt := 125) hx hb dL_does_1 (by decide) (by decide) (by decide) (by decide) ?_
  refine lv_aload_n hx hb dL_does_125 rfl (lv_at hl 0 rfl) ?_
  refine lv_iload_n hx hb dL_does_126 rfl (lv_at hl 2 rfl) ?_
  refine k_callXi (n := 1) (wr := []) (wc := XWa cI cZ q a) (As := [.int x]) (rest := []) hfix hN hC hZ hK hP hD hS hA hl.1 (c_X3_isWhole l D cI cZ hfl q a x) gL_does_X3_isWhole rfl (by decide +kernel) rfl ⟨Nat.le_of_ble_eq_true rfl, Nat.le_of_ble_eq_true rfl⟩ [0, 1, 2, 3, 4, 5, 6, 7, 8] [] rfl rfl (by decide) (by decide) (by decide) 0 rfl rfl rfl (Nat.le_of_ble_eq_true rfl) ⟨Nat.le_of_ble_eq_true rfl, Nat.le_of_ble_eq_true rfl⟩ dL_does_127 (fun E ce q9 H locs hxe hP hD hS hz hce hcv hcl => ?_) (fun r u H locs hw hP hD hS => ?_)
  · refine vx_out (fun x h => (hT x h).elim) hlk hce hcv hcl (fun t ht _ => ?_) hS.2.2 (Nat.le_of_ble_eq_true rfl) (Nat.le_of_ble_eq_true rfl)
    have hxe : E = IOE := hxe.1
    exact ⟨(), trivial, ⟨hxe, by rw [ht]; exact hP, hD⟩, by rw [ht]; exact hz, fun q h1 h2 => by rw [ht]; exact hS.2.1 q h1 h2⟩
  · exact absurd hw.1 hne
set_option maxHeartbeats 4000000 in
set_option maxRecDepth 100000 in
theorem c_L_does_fate (l : Launch) (D : va_G) (cI cZ : ClassId) (hfl : l.stackTraces = false) (q : Nat → Nat) (a : AS) (hI : AI a) (x y z w : Int32) (hne : ¬ inR x 100) : kDo l D cI cZ q a (nI 9) x y z w IOE := by
  intro sz
  refine k_inx (Qc := fun A => va_Qi (fun (_ : Int32) (_ : Unit) => False) (kB D A (fun _ : Unit => XWa cI cZ q a)) A) (XC := fun A => vx_X (fun _ : Unit => True) (xB D A (fun e => e = IOE) (XWa cI cZ q a)) A) (cc := cL_does) (maxL := 6) (ret := (some .int)) (by decide) rfl (Nat.le_of_ble_eq_true rfl) ?_
  intro p e s m below meth c A ls hfix hr hlk hN hT hC hZ hP hK hD hA hS hl
  have hfix : CallFix p m c cL_does 6 s [.ref (q 0), .int (nI 9), .int x, .int y, .int z, .int w].toArray wsL_does RL := hfix
  have hl : lv_has ls 6 [(0, .ref (q 0)), (1, .int (nI 9)), (2, .int x), (3, .int y), (4, .int z), (5, .int w)] := hl
  obtain ⟨hx, hb, hml, hown, hts⟩ := id hfix
  refine lv_iload_n hx hb dL_does_0 rfl (lv_at hl 1 rfl) ?_
  refine lv_tableOut (tgt := 139) hx hb dL_does_1 (by decide) (by decide) ?_
  refine lv_aload_n hx hb dL_does_139 rfl (lv_at hl 0 rfl) ?_
  refine lv_iload_n hx hb dL_does_140 rfl (lv_at hl 2 rfl) ?_
  refine k_callXi (n := 1) (wr := []) (wc := XWa cI cZ q a) (As := [.int x]) (rest := []) hfix hN hC hZ hK hP hD hS hA hl.1 (c_X3_fate l D cI cZ hfl q a x) gL_does_X3_fate rfl (by decide +kernel) rfl ⟨Nat.le_of_ble_eq_true rfl, Nat.le_of_ble_eq_true rfl⟩ [0, 1, 2, 3, 4, 5, 6, 7, 8] [] rfl rfl (by decide) (by decide) (by decide) 0 rfl rfl rfl (Nat.le_of_ble_eq_true rfl) ⟨Nat.le_of_ble_eq_true rfl, Nat.le_of_ble_eq_true rfl⟩ dL_does_141 (fun E ce q9 H locs hxe hP hD hS hz hce hcv hcl => ?_) (fun r u H locs hw hP hD hS => ?_)
  · refine vx_out (fun x h => (hT x h).elim) hlk hce hcv hcl (fun t ht _ => ?_) hS.2.2 (Nat.le_of_ble_eq_true rfl) (Nat.le_of_ble_eq_true rfl)
    have hxe : E = IOE := hxe.1
    exact ⟨(), trivial, ⟨hxe, by rw [ht]; exact hP, hD⟩, by rw [ht]; exact hz, fun q h1 h2 => by rw [ht]; exact hS.2.1 q h1 h2⟩
  · exact absurd hw.1 hne
set_option maxHeartbeats 4000000 in
set_option maxRecDepth 100000 in
theorem c_L_call_ioe (l : Launch) (D : va_G) (cI cZ : ClassId) (q : Nat → Nat) (a : AS) (k x y z w : Int32) (hd : kDo l D cI cZ q a k x y z w IOE) : kMg l yL_call wsL_call 8 190 1 6 D (TY cI cZ) [.ref (q 0), .int k, .int x, .int y, .int z, .int w] (XWa cI cZ q a) (XWa cI cZ q a) (-71 : Int32) 1 := by
  intro sz
  refine k_ingW (sz := sz) (hh := [(0, 11, 12, 14), (0, 11, 17, 16), (0, 11, 22, 18)]) (Qc := fun A => va_Qi (fun (x : Int32) (_ : Unit) => x = (-71 : Int32)) (gB D A (XWa cI cZ q a) (sz + 1)) A) (cc := cL_call) (maxL := 7) (ret := (some .int)) (by decide) rfl (Nat.le_of_ble_eq_true rfl) ?_
  intro p e s m below meth c A ls hfix hr hlk hN hC hZ htab hsz hP hK hD hA hS hl
  subst hsz
  have hfix : CallFix p m c cL_call 7 s [.ref (q 0), .int k, .int x, .int y, .int z, .int w].toArray wsL_call RL := hfix
  have hl : lv_has ls 7 [(0, .ref (q 0)), (1, .int k), (2, .int x), (3, .int y), (4, .int z), (5, .int w)] := hl
  obtain ⟨hx, hb, hml, hown, hts⟩ := id hfix
  refine lv_aload_n hx hb dL_call_0 rfl (lv_at hl 0 rfl) ?_
  refine lv_iload_n hx hb dL_call_1 rfl (lv_at hl 1 rfl) ?_
  refine lv_iload_n hx hb dL_call_2 rfl (lv_at hl 2 rfl) ?_
  refine lv_iload_n hx hb dL_call_3 rfl (lv_at hl 3 rfl) ?_
  refine lv_iload hx hb dL_call_4 (lv_at hl 4 rfl) ?_
  refine lv_iload hx hb dL_call_6 (lv_at hl 5 rfl) ?_
  refine k_callTi (n := 6) (wr := []) (wc := XWa cI cZ q a) (As := [.ref (q 0), .int k, .int x, .int y, .int z, .int w]) (rest := []) hfix hN hC hZ hK hP hD hS hA hl.1 hd gL_call_L_does rfl (by decide +kernel) rfl ⟨Nat.le_of_ble_eq_true rfl, Nat.le_of_ble_eq_true rfl⟩ [0, 1, 2, 3, 4, 5, 6, 7, 8] [] rfl rfl (by decide) (by decide) (by decide) rfl (Nat.le_of_ble_eq_true rfl) ⟨Nat.le_of_ble_eq_true rfl, Nat.le_of_ble_eq_true rfl⟩ dL_call_8 (fun E ce q9 H locs hxe hP hD hS hz hce hcv hcl => ?_) (fun r u H locs hw hP hD hS => hw.elim)
  obtain rfl : E = IOE := hxe
  refine vx_catch hown [] ⟨0, 11, 12, 14⟩ [⟨0, 11, 17, 16⟩, ⟨0, 11, 22, 18⟩] htab (fun z hz => by cases hz) rfl (by decide) (hts (.classLink RL 14 IOE) (List.mem_of_getElem? (i := 1) rfl)) (va_Nw.use rfl hC.1.2.2.1) hce hcv hcl ?_
  refine lv_astore (lv' := [(6, .ref q9), (0, .ref (q 0)), (1, .int k), (2, .int x), (3, .int y), (4, .int z), (5, .int w)]) hx hb dL_call_12 hl (by decide) rfl (fun ls hl => ?_)
  refine lv_bipush (v := (-71 : Int32)) hx hb dL_call_14 (by decide) ?_
  exact k_gret hx hb hr hlk rfl hz hP hD hS dL_call_16
set_option maxHeartbeats 4000000 in
set_option maxRecDepth 100000 in
theorem c_L_call_iae (l : Launch) (D : va_G) (cI cZ : ClassId) (q : Nat → Nat) (a : AS) (k x y z w : Int32) (hd : kDo l D cI cZ q a k x y z w IAE) : kMg l yL_call wsL_call 8 190 1 6 D (TY cI cZ) [.ref (q 0), .int k, .int x, .int y, .int z, .int w] (XWa cI cZ q a) (XWa cI cZ q a) (-72 : Int32) 1 := by
  intro sz
  refine k_ingW (sz := sz) (hh := [(0, 11, 12, 14), (0, 11, 17, 16), (0, 11, 22, 18)]) (Qc := fun A => va_Qi (fun (x : Int32) (_ : Unit) => x = (-72 : Int32)) (gB D A (XWa cI cZ q a) (sz + 1)) A) (cc := cL_call) (maxL := 7) (ret := (some .int)) (by decide) rfl (Nat.le_of_ble_eq_true rfl) ?_
  intro p e s m below meth c A ls hfix hr hlk hN hC hZ htab hsz hP hK hD hA hS hl
  subst hsz
  have hfix : CallFix p m c cL_call 7 s [.ref (q 0), .int k, .int x, .int y, .int z, .int w].toArray wsL_call RL := hfix
  have hl : lv_has ls 7 [(0, .ref (q 0)), (1, .int k), (2, .int x), (3, .int y), (4, .int z), (5, .int w)] := hl
  obtain ⟨hx, hb, hml, hown, hts⟩ := id hfix
  refine lv_aload_n hx hb dL_call_0 rfl (lv_at hl 0 rfl) ?_
  refine lv_iload_n hx hb dL_call_1 rfl (lv_at hl 1 rfl) ?_
  refine lv_iload_n hx hb dL_call_2 rfl (lv_at hl 2 rfl) ?_
  refine lv_iload_n hx hb dL_call_3 rfl (lv_at hl 3 rfl) ?_
  refine lv_iload hx hb dL_call_4 (lv_at hl 4 rfl) ?_
  refine lv_iload hx hb dL_call_6 (lv_at hl 5 rfl) ?_
  refine k_callTi (n := 6) (wr := []) (wc := XWa cI cZ q a) (As := [.ref (q 0), .int k, .int x, .int y, .int z, .int w]) (rest := []) hfix hN hC hZ hK hP hD hS hA hl.1 hd gL_call_L_does rfl (by decide +kernel) rfl ⟨Nat.le_of_ble_eq_true rfl, Nat.le_of_ble_eq_true rfl⟩ [0, 1, 2, 3, 4, 5, 6, 7, 8] [] rfl rfl (by decide) (by decide) (by decide) rfl (Nat.le_of_ble_eq_true rfl) ⟨Nat.le_of_ble_eq_true rfl, Nat.le_of_ble_eq_true rfl⟩ dL_call_8 (fun E ce q9 H locs hxe hP hD hS hz hce hcv hcl => ?_) (fun r u H locs hw hP hD hS => hw.elim)
  obtain rfl : E = IAE := hxe
  refine vx_catch hown [⟨0, 11, 12, 14⟩] ⟨0, 11, 17, 16⟩ [⟨0, 11, 22, 18⟩] htab (fun z hz => by rcases List.mem_singleton.mp hz with rfl; exact Or.inr ⟨by decide, IOE, hts (.classLink RL 14 IOE) (List.mem_of_getElem? (i := 1) rfl), hC.1.2.2.2.1⟩) rfl (by decide) (hts (.classLink RL 16 IAE) (List.mem_of_getElem? (i := 2) rfl)) (va_Nw.use rfl hC.1.1) hce hcv hcl ?_
  refine lv_astore (lv' := [(6, .ref q9), (0, .ref (q 0)), (1, .int k), (2, .int x), (3, .int y), (4, .int z), (5, .int w)]) hx hb dL_call_17 hl (by decide) rfl (fun ls hl => ?_)
  refine lv_bipush (v := (-72 : Int32)) hx hb dL_call_19 (by decide) ?_
  exact k_gret hx hb hr hlk rfl hz hP hD hS dL_call_21
