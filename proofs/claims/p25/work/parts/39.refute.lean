/-! THE REFUTATION: a start that the Statement allows, from which the law's run makes more cells than its end allows -/
/-- a script of twelve cells: the first of each pair draws 14 of 16 (its draw is 28), so that each of the first six turns begins with all the refused calls -/
def vs9 : List Int32 := [1772624628, 0, -1156015236, 0, 210437060, 0, 1576704856, 0, -1351738684, 0, 14508339, 0]
def xs9 (j : Nat) : Int32 := vs9.getD j 0
def scr9 : Array Value := #[.int 1772624628, .int 0, .int (-1156015236), .int 0, .int 210437060, .int 0, .int 1576704856, .int 0, .int (-1351738684), .int 0, .int 14508339, .int 0]
theorem scr9_eq : vp_cell 15 (12, .inl xs9) = { cls := 15, slots := scr9, vm := .none } := by
  have h : Array.ofFn (n := 12) (fun j => Value.int (xs9 j.val)) = scr9 := by
    refine Array.ext (by rw [Array.size_ofFn]; rfl) (fun i h1 h2 => ?_)
    rw [Array.getElem_ofFn]
    have hi : i < 12 := by rw [Array.size_ofFn] at h1; exact h1
    match i, hi, h2 with
    | 0, _, _ => rfl
    | 1, _, _ => rfl
    | 2, _, _ => rfl
    | 3, _, _ => rfl
    | 4, _, _ => rfl
    | 5, _, _ => rfl
    | 6, _, _ => rfl
    | 7, _, _ => rfl
    | 8, _, _ => rfl
    | 9, _, _ => rfl
    | 10, _, _ => rfl
    | 11, _, _ => rfl
    | k + 12, h9, _ => exact absurd h9 (by omega)
  show arrV 15 12 (fun j => Value.int (xs9 j)) = _
  unfold arrV
  rw [h]
def about9 : State := start1.aboutOf scr9
set_option maxRecDepth 100000 in
theorem others9 : (Cond.code x code maxLocals ret :: tables_1).all (fun c => goodWord c || c.before start1.args0 about9) = true := by decide +kernel
theorem words9 : ∀ c ∈ (Cond.code x code maxLocals ret :: tables_1), c.before start1.args0 about9 = true := by
  intro c hc
  have h : (goodWord c || c.before start1.args0 about9) = true := List.all_eq_true.mp others9 c hc
  rcases Bool.or_eq_true_iff.mp h with h | h
  · exact word_at (s := start1.about) (U := about9) (State.WarmedH.refl start1.about) (good_of_word h) (start1.words c hc)
  · exact h
set_option maxRecDepth 100000 in
theorem room9 : about9.hasRoom start1.e0.platform room_1 = true := launch0.hasRoom_least _ room_1 (by decide +kernel) (by decide +kernel) (by decide +kernel) (by decide +kernel) (by decide +kernel) (by decide +kernel)
set_option maxRecDepth 100000 in
theorem roomB9 : about9.hasRoom start1.e0.platform bigR = true := launch0.hasRoom_least _ bigR (by decide +kernel) (by decide +kernel) (by decide +kernel) (by decide +kernel) (by decide +kernel) (by decide +kernel)
set_option maxRecDepth 100000 in
theorem applies9 {R : Room} (h : about9.hasRoom start1.e0.platform R = true) : (headSpec (Cond.code x code maxLocals ret :: tables_1) R).applies x start1.e0.platform about9 = true :=
  (Spec.applies_iff rfl).mpr ⟨rfl, rfl, rfl, by decide +kernel, by decide +kernel, by decide +kernel, h, atoms_intro words9⟩
set_option maxRecDepth 100000 in
theorem pre9 : (Cond.and given_1 narrow_1).before start1.args0 about9 = true := by decide +kernel
set_option maxRecDepth 100000 in
theorem rest9 : rest_1_c.before start1.args0 about9 = true := by decide +kernel
set_option maxRecDepth 100000 in
theorem fits9 : argsFit about9.vm ⟨0, 0⟩ start1.args0 = true ∧ heapFits about9 = true := ⟨by decide +kernel, by decide +kernel⟩
/-- the premises of the claim hold there: it is a start of the Statement's own -/
theorem start9 : AtStart classFile x code maxLocals ret World_1 tables_1 room_1 Calls_1 rest_1 Pre_1 launch0 start1.p0 start1.e0 about9 ⟨0, 0⟩ start1.args0 Lib.HandBits.below0 :=
  ⟨lists_1, trivial, launch0.admits_env _ _ _, launch0.least_env, fairChoices_fair.cas, fairChoices_fair.clock, rfl, fits9.1, fits9.2, applies9 room9, trivial, rest9, pre9⟩
/-- from an invocation's start into the middle of its body (after the library's proof of MetFree.of_bodySF, with another end) -/
theorem k_midrun {l : Launch} {x : MethodName} {S : Spec} {code : ByteArray} {maxLocals : Nat} {ret : Option FieldType} {G : State → Prop} {p : Program} {e : Env} {s : State} {m : MethodId} {args : Array Value} {below : List Frame}
    (hx : plainName x.cls = true)
    (his : ∀ args (s : State) m, S.pre.before args s = true → s.methodNamed? x = some m → ∃ meth c, s.vm.method? m = some meth ∧ meth.code = some c ∧ c.code = code ∧ c.maxLocals = maxLocals ∧ meth.sig.returnType = ret ∧ meth.locks = false)
    (ha : l.admits e) (hc : FairCas e.choices) (hk : FairClock e.choices) (hf : s.frames = .invoking m args :: below) (happ : S.appliesLoose x e.platform s = true)
    (body : ∀ meth c s₁, BodyLoose p l x S code maxLocals ret e s m args below meth c s₁ → c.maxLocals = maxLocals → ∃ s₂, Steps p.tables e below (s₁.setTop (entryFrame m args maxLocals)) s₂ ∧ G s₂) :
    ∃ s₂, Steps p.tables e below s s₂ ∧ G s₂ := by
  obtain ⟨hrun, hable, halone, hname, hhears, hinit, hroom, hpre⟩ := (Spec.appliesLoose_iff hf).mp happ
  obtain ⟨meth, c, hmeth, hcode, hbytes, hlocals, hret, hlocks⟩ := his args s m hpre hname
  have hcur := State.cur_lt_of_frames hf
  have hf1 : (s.setFrames (.java (entryFrame m args maxLocals) :: below)).frames = .java (entryFrame m args maxLocals) :: below := State.frames_setFrames _ hcur
  have ht1 := State.topJava?_of_frames hf1
  have hplain : (s.setFrames (.java (entryFrame m args maxLocals) :: below)).plainMethod m := State.plainMethod.of_named (s := s) (plainFor_of_name hx) hname hmeth
  have hAt : At (s.setFrames (.java (entryFrame m args maxLocals) :: below)) m c below :=
    ⟨by rw [ht1]; rfl, ⟨[], by rw [hf1]; rfl⟩, hrun, by simpa using hable, by simpa using halone, by rw [State.code?_eq]; simp [State.setFrames, hmeth, hcode], hplain⟩
  have hstep : (stepThread p.tables e s).1 = (s.setFrames (.java (entryFrame m args maxLocals) :: below)).setTop (entryFrame m args maxLocals) := by
    have hfull : e.platform.stackFull (s.setFrames below).me (s.setFrames below).frames c.maxLocals = false := by
      obtain ⟨-, h1, -, h2⟩ := State.hasRoom_stack hroom
      rw [hf, List.length_cons] at h1
      rw [State.localsInUse_invoking hf hmeth hcode] at h2
      have hw := stackUse_le_stackWeight below
      rw [State.frames_setFrames _ hcur]
      exact Platform.stackFull_eq_false (by rw [State.stackLimits_setFrames]; omega) (by rw [State.stackLimits_setFrames]; omega)
    rw [stepThread_invoking hf, (doInvoke_java (s := s.setFrames below) (e := e) (meth := meth) (code := c) hmeth hcode hlocks hfull).1, State.setTop_self ht1]
    simp only [State.pushFrame, State.frames_setFrames _ hcur, State.setFrames_setFrames, hlocals, entryFrame]
  obtain ⟨s₂, hs, hG⟩ := body meth c _ ⟨ha, hc, hk, by cases p <;> rfl, hf, hname, hhears, hinit, hroom, hpre, hmeth, hret, hlocks, hbytes, rfl, hAt⟩ hlocals
  exact ⟨s₂, Steps.head (tb := p.tables) (e := e) ⟨hrun, hable, halone⟩ ⟨[.invoking m args], hf, by simp, by simp⟩ (hstep ▸ hs), hG⟩
set_option maxHeartbeats 4000000 in
set_option maxRecDepth 100000 in
/-- the law's run from there comes to a state with 126 new cells, not ended before -/
theorem mid9 : ∃ t, Steps start1.p0.tables start1.e0 Lib.HandBits.below0 about9 t ∧ about9.heap.size + 126 ≤ t.heap.size := by
  have happ := applies9 roomB9
  have hf9 : about9.frames = .invoking ⟨0, 0⟩ start1.args0 :: Lib.HandBits.below0 := rfl
  refine k_midrun (l := launch0) (x := x) (S := headSpec (Cond.code x code maxLocals ret :: tables_1) bigR) (code := code) (maxLocals := maxLocals) (ret := ret) (G := fun t => about9.heap.size + 126 ≤ t.heap.size) (m := ⟨0, 0⟩) (args := start1.args0) (by decide) ?_ (launch0.admits_env _ _ _) fairChoices_fair.cas fairChoices_fair.clock hf9 ((Spec.applies_iff_loose hf9).mp happ).1 ?_
  · intro args s m h hn
    obtain ⟨meth, c, h1, h2, h3, h4, h5, h6, -, -⟩ := Cond.code_spec hn (atoms_spec (ws := Jvm.Cond.code x code maxLocals ret :: tables_1) h _ List.mem_cons_self)
    exact ⟨meth, c, h1, h2, h3, h4, h5, h6⟩
  · intro meth c s₁ B hml
    have hown : about9.vm.findClass RL = some (⟨0, 0⟩ : MethodId).cls := findClass_of_methodNamed B.named
    have hts : ∀ w ∈ lw_tbl, w.before #[Value.ref 0] about9 = true := k2_hts_sels lw_privs (fun w hw => words9 w (List.mem_cons_of_mem _ hw)) lw_privs_ok
    have X₀ : Stand start1.p0 launch0 start1.e0 bigR about9 ⟨0, 0⟩ start1.args0 Lib.HandBits.below0 meth c s₁ [] 0 0 := Stand.of_body B
    have hh0 : s₁.heap = about9.heap := by rw [B.state]; rfl
    obtain ⟨D, cI, cZ, hN, hC, hZ, hK⟩ := law_cx9 (args := #[Value.ref 0]) hts pre9
    have e1 : about9.vm.findClass ("[" ++ (FieldType.int).toString) = some cI := (hK.2 0 (cI, .int) rfl).2
    have e2 : about9.vm.findClass ("[" ++ (FieldType.int).toString) = some 15 := by decide +kernel
    obtain rfl : cI = 15 := Option.some.inj (e1.symm.trans e2)
    have hfix : CallFix start1.p0 ⟨0, 0⟩ c cL_law 11 about9 #[Value.ref 0] wsL_law RL := ⟨B.exec, B.bytes, hml, hown, fun w h => hts w (wsL_law_in w h)⟩
    have hfl : launch0.stackTraces = false := by
      show (!launch0.flags.contains noTraceFlag) = false
      decide +kernel
    have hb9 : about9.heap[0]? = some (vp_cell 15 (12, .inl xs9)) := by rw [scr9_eq]; rfl
    have hP : va_P D vwCl [(0, .inl (15, 12, .inl xs9))] about9.heap := by
      intro k q hq
      match k, hq with
      | 0, hq => cases hq; exact hb9
      | k + 1, hq => simp at hq
    have hD : va_D (fun q => LA about9 q ∨ q = 0) [(0, .inl (15, 12, .inl xs9))] := by
      refine ⟨fun i j p q hi hj _ => ?_, fun k q hq => ?_⟩
      · match i, j, hi, hj with
        | 0, 0, _, _ => rfl
        | i + 1, _, hi, _ => simp at hi
        | 0, j + 1, _, hj => simp at hj
      · match k, hq with
        | 0, hq => cases hq; exact Or.inr rfl
        | k + 1, hq => simp at hq
    have hxs : ∀ i, i ≤ 5 → cV (xs9 (2 * i)) (nI (2 * i)) = nI 28 := by
      intro i hi
      rcases (show i = 0 ∨ i = 1 ∨ i = 2 ∨ i = 3 ∨ i = 4 ∨ i = 5 by omega) with rfl | rfl | rfl | rfl | rfl | rfl <;> decide +kernel
    have K := law_mid (p := start1.p0) (l := launch0) (e := start1.e0) (s := about9) (m := ⟨0, 0⟩) (below := Lib.HandBits.below0) (meth := meth) (c := c) (b := 0) (L := 12) (xs := xs9) (D := D) (cI := 15) (cZ := cZ) (A := fun q => LA about9 q ∨ q = 0) hfl hfix hN hC (zqplus hb9 rfl hZ) hK (fun q h => Or.inl h) (by decide) (by decide) hxs hts hP hD
    obtain ⟨t, a1, b1⟩ := K s₁ hh0 X₀
    exact ⟨t, a1, b1⟩
theorem not_ended9 {s : State} {o : Outcome} (h : Within s Lib.HandBits.below0) : ¬ Ended s Lib.HandBits.below0 o := by
  obtain ⟨ab, hf, hne, hth⟩ := h
  intro he
  cases o with
  | threw a =>
    have he : s.frames = .throwing a :: Lib.HandBits.below0 := he
    rw [hf] at he
    exact hth a (List.append_cancel_right (show ab ++ Lib.HandBits.below0 = [.throwing a] ++ Lib.HandBits.below0 from he))
  | returned v =>
    have hl : s.frames.length = 1 := by
      have he : s.frames = _ :: [] := he
      rw [he]; rfl
    rw [hf, List.length_append] at hl
    have h1 : (Lib.HandBits.below0).length = 1 := rfl
    exact hne (List.eq_nil_of_length_eq_zero (by omega))
/-- THE CLAIM IS FALSE: its end allows 125 new cells, and from this start the law's run makes 126 at least -/
theorem not_claimed_1_1 : ¬ Claimed_1_1 := by
  intro hcl
  obtain ⟨n, o, hw, hr, he, hp⟩ := (hcl launch0 rfl lists_1 trivial) start1.p0 start1.e0 (launch0.admits_env _ _ _) fairChoices_fair.cas fairChoices_fair.clock about9 ⟨0, 0⟩ start1.args0 Lib.HandBits.below0 rfl fits9.1 fits9.2 (applies9 room9) ⟨trivial, rest9, pre9⟩
  obtain ⟨t, ⟨k, hk, hwk⟩, ht⟩ := mid9
  have hF : (stepsAlone start1.p0.tables start1.e0 n about9).heap.size ≤ about9.heap.size + 125 := hp.2.2.2.2.2.1
  rcases Nat.lt_or_ge n k with hlt | hge
  · exact not_ended9 (hwk n hlt) he
  · obtain ⟨j, rfl⟩ := Nat.exists_eq_add_of_le hge
    rw [stepsAlone_add, hk] at hF
    have h9 := stepsAlone_heap_le start1.p0.tables start1.e0 j t
    omega
theorem not_claimed_1_2 : ¬ Claimed_1_2 := by
  intro hcl
  obtain ⟨n, o, hw, hr, he, hp⟩ := (hcl launch0 rfl lists_1 trivial) start1.p0 start1.e0 (launch0.admits_env _ _ _) fairChoices_fair.cas fairChoices_fair.clock about9 ⟨0, 0⟩ start1.args0 Lib.HandBits.below0 rfl fits9.1 fits9.2 (applies9 room9) ⟨trivial, rest9, pre9⟩
  obtain ⟨t, ⟨k, hk, hwk⟩, ht⟩ := mid9
  have hF : (stepsAlone start1.p0.tables start1.e0 n about9).heap.size ≤ about9.heap.size + 125 := hp.2.2.2.2.2.1
  rcases Nat.lt_or_ge n k with hlt | hge
  · exact not_ended9 (hwk n hlt) he
  · obtain ⟨j, rfl⟩ := Nat.exists_eq_add_of_le hge
    rw [stepsAlone_add, hk] at hF
    have h9 := stepsAlone_heap_le start1.p0.tables start1.e0 j t
    omega
/-- and so what is owed is false -/
theorem not_i_vc : ¬ (Claimed_1_1 ∧ Claimed_1_2) := fun h => not_claimed_1_1 h.1
