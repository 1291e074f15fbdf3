section
-- ===== PART A: goes FIRST, ahead of the names: the tables' words, and 'selects' of the private methods out of them =====
/-- a private method of a class that the tables say can be made, by its rows of tables_1 -/
def lw_okq (q : MethodName × Nat) : Prop := (q.1.cls ≠ "java/lang/invoke/MethodHandle" ∧ q.1.cls ≠ "java/lang/invoke/VarHandle") ∧ Cond.instantiable q.1.cls q.2 ∈ tables_1 ∧ Cond.privateMethod q.1 ∈ tables_1 ∧ Cond.instanceMethod q.1 ∈ tables_1
theorem lw_p0 : lw_okq (⟨"FilmPlayer$Film", "isAnchorShowable", "(I)Z"⟩, 6) := ⟨⟨by decide +kernel, by decide +kernel⟩, List.mem_of_getElem? (i := 89) (by decide +kernel), List.mem_of_getElem? (i := 197) (by decide +kernel), List.mem_of_getElem? (i := 198) (by decide +kernel)⟩
theorem lw_p1 : lw_okq (⟨"FilmPlayer$Film", "isWholeIfAny", "(I)Z"⟩, 6) := ⟨⟨by decide +kernel, by decide +kernel⟩, List.mem_of_getElem? (i := 89) (by decide +kernel), List.mem_of_getElem? (i := 201) (by decide +kernel), List.mem_of_getElem? (i := 202) (by decide +kernel)⟩
theorem lw_p2 : lw_okq (⟨"java/lang/Throwable", "fillInStackTrace", "(I)Ljava/lang/Throwable;"⟩, 6) := ⟨⟨by decide +kernel, by decide +kernel⟩, List.mem_of_getElem? (i := 265) (by decide +kernel), List.mem_of_getElem? (i := 263) (by decide +kernel), List.mem_of_getElem? (i := 264) (by decide +kernel)⟩
theorem lw_p3 : lw_okq (⟨"FilmPlayer", "passTick", "()V"⟩, 4) := ⟨⟨by decide +kernel, by decide +kernel⟩, List.mem_of_getElem? (i := 14) (by decide +kernel), List.mem_of_getElem? (i := 360) (by decide +kernel), List.mem_of_getElem? (i := 361) (by decide +kernel)⟩
theorem lw_p4 : lw_okq (⟨"FilmPlayer$Ring", "isInterruptDue", "(I)Z"⟩, 9) := ⟨⟨by decide +kernel, by decide +kernel⟩, List.mem_of_getElem? (i := 22) (by decide +kernel), List.mem_of_getElem? (i := 371) (by decide +kernel), List.mem_of_getElem? (i := 372) (by decide +kernel)⟩
theorem lw_p5 : lw_okq (⟨"FilmPlayer$Store", "ask", "(I)V"⟩, 5) := ⟨⟨by decide +kernel, by decide +kernel⟩, List.mem_of_getElem? (i := 64) (by decide +kernel), List.mem_of_getElem? (i := 400) (by decide +kernel), List.mem_of_getElem? (i := 401) (by decide +kernel)⟩
theorem lw_p6 : lw_okq (⟨"FilmPlayer$Film", "canBegin", "()Z"⟩, 6) := ⟨⟨by decide +kernel, by decide +kernel⟩, List.mem_of_getElem? (i := 89) (by decide +kernel), List.mem_of_getElem? (i := 408) (by decide +kernel), List.mem_of_getElem? (i := 409) (by decide +kernel)⟩
theorem lw_p7 : lw_okq (⟨"FilmPlayer$Film", "giveTurn", "(I)V"⟩, 6) := ⟨⟨by decide +kernel, by decide +kernel⟩, List.mem_of_getElem? (i := 89) (by decide +kernel), List.mem_of_getElem? (i := 412) (by decide +kernel), List.mem_of_getElem? (i := 413) (by decide +kernel)⟩
theorem lw_p8 : lw_okq (⟨"FilmPlayer$Film", "outcomeOf", "(I)I"⟩, 6) := ⟨⟨by decide +kernel, by decide +kernel⟩, List.mem_of_getElem? (i := 89) (by decide +kernel), List.mem_of_getElem? (i := 419) (by decide +kernel), List.mem_of_getElem? (i := 420) (by decide +kernel)⟩
theorem lw_p9 : lw_okq (⟨"FilmPlayer$Film", "wasShown", "(I)Z"⟩, 6) := ⟨⟨by decide +kernel, by decide +kernel⟩, List.mem_of_getElem? (i := 89) (by decide +kernel), List.mem_of_getElem? (i := 423) (by decide +kernel), List.mem_of_getElem? (i := 424) (by decide +kernel)⟩
theorem lw_p10 : lw_okq (⟨"FilmPlayer$Film", "pace", "()I"⟩, 6) := ⟨⟨by decide +kernel, by decide +kernel⟩, List.mem_of_getElem? (i := 89) (by decide +kernel), List.mem_of_getElem? (i := 427) (by decide +kernel), List.mem_of_getElem? (i := 428) (by decide +kernel)⟩
theorem lw_p11 : lw_okq (⟨"FilmPlayerModel", "asks", "(Z)Z"⟩, 22) := ⟨⟨by decide +kernel, by decide +kernel⟩, List.mem_of_getElem? (i := 482) (by decide +kernel), List.mem_of_getElem? (i := 566) (by decide +kernel), List.mem_of_getElem? (i := 567) (by decide +kernel)⟩
theorem lw_p12 : lw_okq (⟨"FilmPlayerModel", "comes", "(I)Z"⟩, 22) := ⟨⟨by decide +kernel, by decide +kernel⟩, List.mem_of_getElem? (i := 482) (by decide +kernel), List.mem_of_getElem? (i := 574) (by decide +kernel), List.mem_of_getElem? (i := 575) (by decide +kernel)⟩
theorem lw_p13 : lw_okq (⟨"FilmPlayerModel", "fails", "(I)I"⟩, 22) := ⟨⟨by decide +kernel, by decide +kernel⟩, List.mem_of_getElem? (i := 482) (by decide +kernel), List.mem_of_getElem? (i := 582) (by decide +kernel), List.mem_of_getElem? (i := 583) (by decide +kernel)⟩
theorem lw_p14 : lw_okq (⟨"FilmPlayerModel", "passes", "()V"⟩, 22) := ⟨⟨by decide +kernel, by decide +kernel⟩, List.mem_of_getElem? (i := 482) (by decide +kernel), List.mem_of_getElem? (i := 590) (by decide +kernel), List.mem_of_getElem? (i := 591) (by decide +kernel)⟩
theorem lw_p15 : lw_okq (⟨"FilmPlayerModel", "drives", "()V"⟩, 22) := ⟨⟨by decide +kernel, by decide +kernel⟩, List.mem_of_getElem? (i := 482) (by decide +kernel), List.mem_of_getElem? (i := 594) (by decide +kernel), List.mem_of_getElem? (i := 595) (by decide +kernel)⟩
def lw_privs_1 : List (MethodName × Nat) := [(⟨"FilmPlayer$Film", "isAnchorShowable", "(I)Z"⟩, 6), (⟨"FilmPlayer$Film", "isWholeIfAny", "(I)Z"⟩, 6), (⟨"java/lang/Throwable", "fillInStackTrace", "(I)Ljava/lang/Throwable;"⟩, 6), (⟨"FilmPlayer", "passTick", "()V"⟩, 4), (⟨"FilmPlayer$Ring", "isInterruptDue", "(I)Z"⟩, 9), (⟨"FilmPlayer$Store", "ask", "(I)V"⟩, 5), (⟨"FilmPlayer$Film", "canBegin", "()Z"⟩, 6), (⟨"FilmPlayer$Film", "giveTurn", "(I)V"⟩, 6), (⟨"FilmPlayer$Film", "outcomeOf", "(I)I"⟩, 6), (⟨"FilmPlayer$Film", "wasShown", "(I)Z"⟩, 6), (⟨"FilmPlayer$Film", "pace", "()I"⟩, 6), (⟨"FilmPlayerModel", "asks", "(Z)Z"⟩, 22), (⟨"FilmPlayerModel", "comes", "(I)Z"⟩, 22), (⟨"FilmPlayerModel", "fails", "(I)I"⟩, 22), (⟨"FilmPlayerModel", "passes", "()V"⟩, 22), (⟨"FilmPlayerModel", "drives", "()V"⟩, 22)]
theorem lw_r1 : ∀ q ∈ lw_privs_1, lw_okq q := List.forall_mem_cons.mpr ⟨lw_p0, List.forall_mem_cons.mpr ⟨lw_p1, List.forall_mem_cons.mpr ⟨lw_p2, List.forall_mem_cons.mpr ⟨lw_p3, List.forall_mem_cons.mpr ⟨lw_p4, List.forall_mem_cons.mpr ⟨lw_p5, List.forall_mem_cons.mpr ⟨lw_p6, List.forall_mem_cons.mpr ⟨lw_p7, List.forall_mem_cons.mpr ⟨lw_p8, List.forall_mem_cons.mpr ⟨lw_p9, List.forall_mem_cons.mpr ⟨lw_p10, List.forall_mem_cons.mpr ⟨lw_p11, List.forall_mem_cons.mpr ⟨lw_p12, List.forall_mem_cons.mpr ⟨lw_p13, List.forall_mem_cons.mpr ⟨lw_p14, List.forall_mem_cons.mpr ⟨lw_p15, fun _ h => absurd h List.not_mem_nil⟩⟩⟩⟩⟩⟩⟩⟩⟩⟩⟩⟩⟩⟩⟩⟩
theorem lw_p16 : lw_okq (⟨"FilmPlayerModel", "takes", "(I)V"⟩, 22) := ⟨⟨by decide +kernel, by decide +kernel⟩, List.mem_of_getElem? (i := 482) (by decide +kernel), List.mem_of_getElem? (i := 598) (by decide +kernel), List.mem_of_getElem? (i := 599) (by decide +kernel)⟩
theorem lw_p17 : lw_okq (⟨"FilmPlayerModel", "asksFor", "()V"⟩, 22) := ⟨⟨by decide +kernel, by decide +kernel⟩, List.mem_of_getElem? (i := 482) (by decide +kernel), List.mem_of_getElem? (i := 602) (by decide +kernel), List.mem_of_getElem? (i := 603) (by decide +kernel)⟩
theorem lw_p18 : lw_okq (⟨"FilmPlayerModel", "whole", "(I)Z"⟩, 22) := ⟨⟨by decide +kernel, by decide +kernel⟩, List.mem_of_getElem? (i := 482) (by decide +kernel), List.mem_of_getElem? (i := 606) (by decide +kernel), List.mem_of_getElem? (i := 607) (by decide +kernel)⟩
theorem lw_p19 : lw_okq (⟨"FilmPlayerModel", "turns", "()V"⟩, 22) := ⟨⟨by decide +kernel, by decide +kernel⟩, List.mem_of_getElem? (i := 482) (by decide +kernel), List.mem_of_getElem? (i := 610) (by decide +kernel), List.mem_of_getElem? (i := 611) (by decide +kernel)⟩
theorem lw_p20 : lw_okq (⟨"FilmPlayerModel", "fillNow", "()I"⟩, 22) := ⟨⟨by decide +kernel, by decide +kernel⟩, List.mem_of_getElem? (i := 482) (by decide +kernel), List.mem_of_getElem? (i := 623) (by decide +kernel), List.mem_of_getElem? (i := 624) (by decide +kernel)⟩
def lw_privs_2 : List (MethodName × Nat) := [(⟨"FilmPlayerModel", "takes", "(I)V"⟩, 22), (⟨"FilmPlayerModel", "asksFor", "()V"⟩, 22), (⟨"FilmPlayerModel", "whole", "(I)Z"⟩, 22), (⟨"FilmPlayerModel", "turns", "()V"⟩, 22), (⟨"FilmPlayerModel", "fillNow", "()I"⟩, 22)]
theorem lw_r2 : ∀ q ∈ lw_privs_2, lw_okq q := List.forall_mem_cons.mpr ⟨lw_p16, List.forall_mem_cons.mpr ⟨lw_p17, List.forall_mem_cons.mpr ⟨lw_p18, List.forall_mem_cons.mpr ⟨lw_p19, List.forall_mem_cons.mpr ⟨lw_p20, fun _ h => absurd h List.not_mem_nil⟩⟩⟩⟩⟩
def lw_privs : List (MethodName × Nat) := lw_privs_1 ++ (lw_privs_2)
def lw_tbl : List Cond := k2_sels lw_privs ++ tables_1
theorem lw_privs_ok : ∀ q ∈ lw_privs, lw_okq q := by
  show ∀ q ∈ lw_privs_1 ++ (lw_privs_2), lw_okq q
  exact List.forall_mem_append.mpr ⟨lw_r1, lw_r2⟩
end
section
/-! ===== BEGIN words of one list among another's, by their places ===== -/
theorem goodIn_r {big : List Cond} (ws : List Cond) (ps : List Nat) (hp : ws = ps.filterMap (fun i => big[i]?)) (h : ws.all goodWord = true) : GoodIn big ws := by
  intro w hw
  have h1 := List.all_eq_true.mp h w hw
  rw [hp] at hw
  obtain ⟨i, -, hi⟩ := List.mem_filterMap.mp hw
  have hm : w ∈ big := by first | exact List.mem_of_getElem? hi | exact List.getElem?_mem hi
  exact ⟨hm, good_of_word h1⟩
theorem goodIn_app {big a b : List Cond} (ha : GoodIn big a) (hb : GoodIn big b) : GoodIn big (a ++ b) := fun w h => (List.mem_append.mp h).elim (ha w) (hb w)
theorem goodIn_ca {big a b : List Cond} {c : Cond} (ha : GoodIn big (c :: a)) (hb : GoodIn big b) : GoodIn big (c :: (a ++ b)) := fun w h => (List.mem_cons.mp h).elim (fun e => ha w (List.mem_cons.mpr (Or.inl e))) (fun h => (List.mem_append.mp h).elim (fun h => ha w (List.mem_cons.mpr (Or.inr h))) (hb w))
theorem goodIn_sub {big ws : List Cond} (hm : ∀ w ∈ ws, w ∈ big) (h : ws.all goodWord = true) : GoodIn big ws := fun w hw => ⟨hm w hw, good_of_word (List.all_eq_true.mp h w hw)⟩
/-! ===== END ===== -/

/-! ===== BEGIN exceptions that leave a method, and their catching by the caller (launches without stack traces) ===== -/
section VXA
/-! The laws vx_back, vx_callV, vx_callS, vx_callSW, vx_throw0, vx_throwS follow proofs of the library, with one case more: JvmDerived/Free/Laws.lean (Back.of_free), Shelf42/LK1.lean (callV, callS), Shelf/KitTraced.lean (throwNew0V, throwNewS). -/
/-- where a method has thrown q: the class by its name, the cell, what was written, the world -/
def vx_T (XC : String → State → State → Prop) (st : State) (q : Addr) (t : State) (mc ms : Nat) (free : Addr → Prop) : Prop :=
  ∃ (E : String) (ce : Cell) (L : List Loc), XC E st t ∧ t.heap[q]? = some ce ∧ ce.vm = .none ∧ st.vm.findClass E = some ce.cls ∧ st.WarmedH t.vm ∧ st.sameButNew ({ t with vm := st.vm } : State) L mc ms ∧ ∀ z ∈ L, free z.base
def vx_Q (Qc : Array Value → State → Outcome → State → Prop) (XC : String → State → State → Prop) (mc ms : Nat) (free : Addr → Prop) : Array Value → State → Outcome → State → Prop := fun a st o t =>
  (Qc a st o t ∧ ∃ L, FrameEnd st o t L mc ms ∧ ∀ q ∈ L, free q.base) ∨ ∃ q, o = .threw q ∧ vx_T XC st q t mc ms free
/-- a callee that returns or throws -/
def vx_Met (l : Launch) (y : MethodName) (ws : List Cond) (rm : Room) (Pc : Array Value → State → Prop) (Qc : Array Value → State → Outcome → State → Prop) (XC : String → State → State → Prop) (mc ms : Nat) (free : Addr → Prop) : Prop :=
  MetFree l y (headSpec ws rm) Pc (fun _ _ _ _ _ => True) (vx_Q Qc XC mc ms free)
def vx_Post (XC : String → State → State → Prop) (mc ms : Nat) (free : Addr → Prop) : Pt → Array Value → Addr → Pt → Prop := fun A a q B =>
  ∃ (g : JFrame) (mk : MethodId) (t : State) (L : List Loc) (E : String) (ce : Cell), B.U.heap = t.heap ∧ B.U.vm = t.vm ∧ XC E (A.U.calling g mk a) t ∧ t.heap[q]? = some ce ∧ ce.vm = .none ∧ A.U.vm.findClass E = some ce.cls ∧ B.locs = A.locs ++ L ∧ (∀ z ∈ L, free z.base) ∧ B.cells = A.cells + mc ∧ B.slots = A.slots + ms
def vx_Back (l : Launch) (R : Room) (p : Program) (e : Env) (below : List Frame) (s : State) (sargs : Array Value) (y : MethodName) (len W9 : Nat)
    (Pre : Pt → Array Value → Prop) (Post : Pt → Array Value → Option Value → Pt → Prop) (PostX : Pt → Array Value → Addr → Pt → Prop) : Prop :=
  ∀ (m : MethodId) (meth : Method) (c : Code) (A : Pt) (g : JFrame) (ig : Instr) (mk : MethodId) (a : Array Value),
    Stand p l e R s m sargs below meth c A.U A.locs A.cells A.slots → g.method = m → g.locals.size = c.maxLocals → decode c.code g.pc = .ok (ig, len) →
    2 * g.monitorRoom + (g.stack.map fun v => v.category).sum ≤ W9 → A.U.methodNamed? y = some mk → Pre A a →
    (∃ (v : Option Value) (B : Pt), Stand p l e R s m sargs below meth c B.U B.locs B.cells B.slots ∧ Post A a v B ∧
      Steps p.tables e below (doInvoke e (A.U.setTop g) [] mk a).1 (B.U.setTop { g with pc := g.pc + len, stack := v.toList ++ g.stack })) ∨
    (∃ (q : Addr) (B : Pt), Stand p l e R s m sargs below meth c B.U B.locs B.cells B.slots ∧ PostX A a q B ∧
      Steps p.tables e below (doInvoke e (A.U.setTop g) [] mk a).1 ((B.U.setTop g).pushFrame (.throwing q)))
section Payer
variable {l : Launch} {R : Room} {p : Program} {e : Env} {below : List Frame} {s : State} {sargs : Array Value} {y : MethodName} {len W9 : Nat}
theorem vx_back {ws : List Cond} {rm : Room} {Pc : Array Value → State → Prop} {Qc : Array Value → State → Outcome → State → Prop} {XC : String → State → State → Prop} {mc ms : Nat} {free : Addr → Prop} {bytes : ByteArray} {maxL : Nat} {ret : Option FieldType}
    (hM : vx_Met l y ws rm Pc Qc XC mc ms free) (hblind : FrameBlind Pc) (hrc : rm.cells = mc) (hrs : rm.slots = ms)
    (hframes : rm.frames + 1 ≤ R.frames) (hlocals : W9 + (maxL + 11) + rm.locals ≤ R.locals)
    (hws : ∀ w ∈ ws, ∀ a' U, s.WarmedH U.vm → w.before a' U = true) (hcode : Cond.code y bytes maxL ret ∈ ws) (hinit : ∀ a' U, s.WarmedH U.vm → (Cond.initialized y.cls).before a' U = true) :
    vx_Back l R p e below s sargs y len W9 (PreOf R mc ms Pc) (PostOf Qc mc ms free) (vx_Post XC mc ms free) := by
  intro m meth c A g ig mk a X hg hsize hdg hW hn hp
  have h1 : (headSpec ws rm).pre.before a A.U = true := atoms_intro fun w hw => hws w hw _ _ X.warmed
  have h2 : (Cond.code y bytes maxL ret).before a A.U = true := hws _ hcode _ _ X.warmed
  have h3 : (Cond.initialized y.cls).before a A.U = true := hinit _ _ X.warmed
  have h4 : A.cells + (headSpec ws rm).room.cells ≤ R.cells := by rw [show (headSpec ws rm).room.cells = mc from hrc]; exact hp.1
  have h5 : A.slots + (headSpec ws rm).room.slots ≤ R.slots := by rw [show (headSpec ws rm).room.slots = ms from hrs]; exact hp.2.1
  have hPc : Pc a (A.U.calling g mk a) := hblind _ _ _ _ hp.2.2
  obtain ⟨U, Ls, c0, s0⟩ := A
  dsimp only [Pt.U, Pt.locs, Pt.cells, Pt.slots] at h1 h2 h3 h4 h5 X hn hPc ⊢
  obtain ⟨methY, cY, hmY, hcY, -, hlY, -, -, -, -⟩ := Cond.code_spec hn h2
  obtain ⟨kY, hkY, -⟩ := className_of_methodNamed hn
  have hinitY : kY.init = .initialized := Cond.initialized_spec (findClass_of_methodNamed hn) hkY h3
  have h : At U g.method c below := by rw [hg]; exact X.here
  have hlocals9 : W9 + (maxL + 11) + (headSpec ws rm).room.locals ≤ R.locals := hlocals
  have happ : (headSpec ws rm).appliesLoose y e.platform (U.calling g mk a) = true :=
    Spec.appliesLoose_calling (g := g) h hdg hn hkY hinitY
      (X.room_calling (g := g) (R' := (headSpec ws rm).room) hsize hmY hcY hframes (by rw [hlY]; omega) h4 h5) h1
  obtain ⟨mid, hmid⟩ := h.above
  have hfr : (U.setTop g).frames = (.java g :: mid) ++ below := by rw [State.frames_setTop' g h.top, hmid]; rfl
  obtain ⟨o, s₂, hsteps, -, hend, hq⟩ := Steps.callFree hM p X.admits X.cas X.clock (acts := []) hfr happ hPc trivial
  have hq' : vx_Q Qc XC mc ms free a (U.calling g mk a) o s₂ := hq
  rw [State.frames_setTop' g h.top] at hend
  obtain ⟨g₀, hg0⟩ := Option.isSome_iff_exists.mp h.top
  obtain ⟨r, hr⟩ := State.topJava?_eq_some.mp hg0
  have hr' : (({ U with heap := s₂.heap, slotsUsed := s₂.slotsUsed } : State).setVm s₂.vm).frames = .java g₀ :: r := hr
  rcases hq' with ⟨hqc, L, hfe, hL⟩ | ⟨q, rfl, E, ce, L, hx, hce, hcv, hcl, hW₂, hsm, hL⟩
  · obtain ⟨⟨v, rfl⟩, hW₂, e2, q2, q3, q4, q5, q6⟩ := id hfe
    have e3 : s₂ = ({ (U.calling g mk a).setFrames s₂.frames with heap := s₂.heap, slotsUsed := s₂.slotsUsed } : State).setVm s₂.vm := by
      have : s₂ = ({ s₂ with vm := (U.calling g mk a).vm } : State).setVm s₂.vm := rfl
      rw [e2] at this
      exact this
    obtain ⟨c₂, i₂, len₂, hc₂, hd₂, hf₂⟩ := hend
    have hW' : U.WarmedH s₂.vm := hW₂
    have hcc : c₂ = c := by
      have h1 : s₂.code? g.method = U.code? g.method := by
        rw [State.code?_eq, State.code?_eq, hW'.alike.method?]
      exact Option.some.inj (hc₂.symm.trans (h1.trans h.code))
    subst hcc
    have hlen : len₂ = len := by rw [hdg] at hd₂; cases hd₂; rfl
    subst hlen
    have hs₂ : s₂ = (({ U with heap := s₂.heap, slotsUsed := s₂.slotsUsed } : State).setVm s₂.vm).setTop { g with pc := g.pc + len₂, stack := v.toList ++ g.stack } := by
      refine e3.trans ?_
      rw [hf₂, State.calling_eq h.top, State.setFrames_setFrames, State.setTop_of_frames _ hr', hr]
      rfl
    have hsame : U.sameButNew ({ U with heap := s₂.heap, slotsUsed := s₂.slotsUsed } : State) L mc ms := by
      refine ⟨?_, q2, q3, q4, q5, q6⟩
      obtain ⟨t, ht, -⟩ := State.frames_cons hr
      show ({ U with heap := s₂.heap, slotsUsed := s₂.slotsUsed } : State) = { U.setFrames U.frames with heap := s₂.heap, slotsUsed := s₂.slotsUsed }
      rw [State.setFrames_self ht]
    subst hg
    refine Or.inl ⟨v, ⟨(({ U with heap := s₂.heap, slotsUsed := s₂.slotsUsed } : State).setVm s₂.vm), Ls ++ L, c0 + mc, s0 + ms⟩,
      ⟨X.admits, X.cas, X.clock, X.frames, X.room, X.hears, X.method, X.code, (X.here.setHeapUsed s₂.heap s₂.slotsUsed).setVm hW'.alike, X.tail, State.WarmedH.trans X.warmed hW', X.limits, X.bytes, X.same.trans (hsame.setVm s.vm)⟩,
      ⟨g, mk, s₂, L, rfl, rfl, hqc, rfl, hL, rfl, rfl⟩, ?_⟩
    show Steps p.tables e below _ ((({ U with heap := s₂.heap, slotsUsed := s₂.slotsUsed } : State).setVm s₂.vm).setTop { g with pc := g.pc + len₂, stack := v.toList ++ g.stack })
    rw [← hs₂]
    exact hsteps
  · obtain ⟨e2, q2, q3, q4, q5, q6⟩ := id hsm
    have e3 : s₂ = ({ (U.calling g mk a).setFrames s₂.frames with heap := s₂.heap, slotsUsed := s₂.slotsUsed } : State).setVm s₂.vm := by
      have : s₂ = ({ s₂ with vm := (U.calling g mk a).vm } : State).setVm s₂.vm := rfl
      rw [e2] at this
      exact this
    have hf₂ : s₂.frames = .throwing q :: .java g :: U.frames.tail := hend
    have hW' : U.WarmedH s₂.vm := hW₂
    have hs₂ : s₂ = ((({ U with heap := s₂.heap, slotsUsed := s₂.slotsUsed } : State).setVm s₂.vm).setTop g).pushFrame (.throwing q) := by
      refine e3.trans ?_
      rw [hf₂, State.calling_eq h.top, State.setFrames_setFrames, State.pushFrame, State.frames_setTop _ hr', State.setTop_of_frames _ hr', State.setFrames_setFrames, hr]
      rfl
    have hsame : U.sameButNew ({ U with heap := s₂.heap, slotsUsed := s₂.slotsUsed } : State) L mc ms := by
      refine ⟨?_, q2, q3, q4, q5, q6⟩
      obtain ⟨t, ht, -⟩ := State.frames_cons hr
      show ({ U with heap := s₂.heap, slotsUsed := s₂.slotsUsed } : State) = { U.setFrames U.frames with heap := s₂.heap, slotsUsed := s₂.slotsUsed }
      rw [State.setFrames_self ht]
    subst hg
    refine Or.inr ⟨q, ⟨(({ U with heap := s₂.heap, slotsUsed := s₂.slotsUsed } : State).setVm s₂.vm), Ls ++ L, c0 + mc, s0 + ms⟩,
      ⟨X.admits, X.cas, X.clock, X.frames, X.room, X.hears, X.method, X.code, (X.here.setHeapUsed s₂.heap s₂.slotsUsed).setVm hW'.alike, X.tail, State.WarmedH.trans X.warmed hW', X.limits, X.bytes, X.same.trans (hsame.setVm s.vm)⟩,
      ⟨g, mk, s₂, L, E, ce, rfl, rfl, hx, hce, hcv, hcl, rfl, hL, rfl, rfl⟩, ?_⟩
    show Steps p.tables e below _ (((({ U with heap := s₂.heap, slotsUsed := s₂.slotsUsed } : State).setVm s₂.vm).setTop g).pushFrame (.throwing q))
    rw [← hs₂]
    exact hsteps
end Payer
section Calls
variable {p : Program} {l : Launch} {e : Env} {R : Room} {s : State} {m : MethodId} {args : Array Value} {below : List Frame} {meth : Method} {c : Code} {T : State} {locs : List Loc} {cells slots : Nat}
theorem vx_callV (X : Stand p l e R s m args below meth c T locs cells slots) (hexec : p.tables.exec = Jvm.exec) {own C : String} {index : Nat} {y : MethodName} {bytes : ByteArray} {maxL : Nat} {ret : Option FieldType}
    (hown : s.vm.findClass own = some m.cls) (hlink : (Cond.methodLink own index y).before args s = true) (hinst : (Cond.instanceMethod y).before args s = true) (hsel : (Cond.selects C y y).before args s = true)
    (hcode : (Cond.code y bytes maxL ret).before args s = true) (hy : y.cls ≠ "java/lang/invoke/MethodHandle" ∧ y.cls ≠ "java/lang/invoke/VarHandle")
    {W9 : Nat} {Pre : Pt → Array Value → Prop} {Post : Pt → Array Value → Option Value → Pt → Prop} {PostX : Pt → Array Value → Addr → Pt → Prop} (hK : vx_Back l R p e below s args y 3 W9 Pre Post PostX)
    {b : Addr} {cellB : Cell} (hcell : T.heap[b]? = some cellB) (hobj : cellB.vm.isStatics = false) (hcls : s.vm.findClass C = some cellB.cls)
    {g : JFrame} (hg : g.method = m) (hsize : g.locals.size = c.maxLocals) {argsL rest : List Value} (hlen : ∀ sig, parseMethodDescriptor y.desc = some sig → argsL.length = sig.parameters.length)
    (hstack : g.stack = argsL.reverse ++ .ref b :: rest) (hW : 2 * g.monitorRoom + (rest.map fun v => v.category).sum ≤ W9) (hdg : decode c.code g.pc = .ok (.invokevirtual index, 3))
    (hpre : ∀ vm₁, s.WarmedH vm₁ → Pre ⟨T.setVm vm₁, locs, cells, slots⟩ (Value.ref b :: argsL).toArray) :
    (∃ (v : Option Value) (vm₁ : Vm) (B : Pt), s.WarmedH vm₁ ∧ Stand p l e R s m args below meth c B.U B.locs B.cells B.slots ∧ Post ⟨T.setVm vm₁, locs, cells, slots⟩ (Value.ref b :: argsL).toArray v B ∧
      ∀ target, Steps p.tables e below (B.U.setTop { g with pc := g.pc + 3, stack := v.toList ++ rest }) target → Steps p.tables e below (T.setTop g) target) ∨
    (∃ (q : Addr) (vm₁ : Vm) (B : Pt), s.WarmedH vm₁ ∧ Stand p l e R s m args below meth c B.U B.locs B.cells B.slots ∧ PostX ⟨T.setVm vm₁, locs, cells, slots⟩ (Value.ref b :: argsL).toArray q B ∧
      Steps p.tables e below (T.setTop g) ((B.U.setTop { g with stack := rest }).pushFrame (.throwing q))) := by
  obtain ⟨mk, methM, hnamed, hmethM, hstM, habM⟩ := Cond.instanceMethod_spec hinst
  obtain ⟨methM', cM, hmethM', -, -, -, -, -, -, hsigM⟩ := Cond.code_spec hnamed hcode
  cases hmethM.symm.trans hmethM'
  obtain ⟨c2, r2, m2, q1, q2, q3, q4, kP, hkP, hkPi⟩ := Cond.selects_spec hsel
  cases hcls.symm.trans q1
  cases (State.methodFound?_of_named hnamed hy).symm.trans q2
  cases hnamed.symm.trans q3
  have hselP : selectMethod e.platform s.vm cellB.cls mk = .method mk := by rw [Launch.admits_selectMethod X.admits]; exact q4
  obtain ⟨vm₁, X₁, hstep₁⟩ := X.invokevirtual hexec hown hlink hnamed hmethM hstM hkP hkPi hy (a := b) (cell := cellB) hcell
    (fun z h => by rw [h] at hobj; cases hobj) hselP hmethM habM hkP hkPi (g := g) hg (argsL := argsL) (rest := rest) (hlen _ hsigM) hstack hdg
  rcases hK m meth c ⟨T.setVm vm₁, locs, cells, slots⟩ { g with stack := rest } (.invokevirtual index) mk (Value.ref b :: argsL).toArray X₁ hg hsize hdg hW (X₁.named hnamed) (hpre vm₁ X₁.warmed) with ⟨v, B, X', hpost, hsteps⟩ | ⟨q, B, X', hpost, hsteps⟩
  · exact Or.inl ⟨v, vm₁, B, X₁.warmed, X', hpost, fun target h => hstep₁ _ fun acts => by rw [doInvoke_state]; exact hsteps.trans h⟩
  · exact Or.inr ⟨q, vm₁, B, X₁.warmed, X', hpost, hstep₁ _ fun acts => by rw [doInvoke_state]; exact hsteps⟩
theorem vx_callS (X : Stand p l e R s m args below meth c T locs cells slots) (hexec : p.tables.exec = Jvm.exec) {own : String} {index : Nat} {y : MethodName} {bytes : ByteArray} {maxL : Nat} {ret : Option FieldType}
    (hown : s.vm.findClass own = some m.cls) (hlink : (Cond.methodLink own index y).before args s = true) (hstat : (Cond.static y).before args s = true) (hinit : (Cond.initialized y.cls).before args s = true)
    (hcode : (Cond.code y bytes maxL ret).before args s = true) (hy : y.cls ≠ "java/lang/invoke/MethodHandle" ∧ y.cls ≠ "java/lang/invoke/VarHandle")
    {W9 : Nat} {Pre : Pt → Array Value → Prop} {Post : Pt → Array Value → Option Value → Pt → Prop} {PostX : Pt → Array Value → Addr → Pt → Prop} (hK : vx_Back l R p e below s args y 3 W9 Pre Post PostX)
    {g : JFrame} (hg : g.method = m) (hsize : g.locals.size = c.maxLocals) {argsL rest : List Value} (hlen : ∀ sig, parseMethodDescriptor y.desc = some sig → argsL.length = sig.parameters.length)
    (hstack : g.stack = argsL.reverse ++ rest) (hW : 2 * g.monitorRoom + (rest.map fun v => v.category).sum ≤ W9) (hdg : decode c.code g.pc = .ok (.invokestatic index, 3))
    (hpre : ∀ vm₁, s.WarmedH vm₁ → Pre ⟨T.setVm vm₁, locs, cells, slots⟩ argsL.toArray) :
    (∃ (v : Option Value) (vm₁ : Vm) (B : Pt), s.WarmedH vm₁ ∧ Stand p l e R s m args below meth c B.U B.locs B.cells B.slots ∧ Post ⟨T.setVm vm₁, locs, cells, slots⟩ argsL.toArray v B ∧
      ∀ target, Steps p.tables e below (B.U.setTop { g with pc := g.pc + 3, stack := v.toList ++ rest }) target → Steps p.tables e below (T.setTop g) target) ∨
    (∃ (q : Addr) (vm₁ : Vm) (B : Pt), s.WarmedH vm₁ ∧ Stand p l e R s m args below meth c B.U B.locs B.cells B.slots ∧ PostX ⟨T.setVm vm₁, locs, cells, slots⟩ argsL.toArray q B ∧
      Steps p.tables e below (T.setTop g) ((B.U.setTop { g with stack := rest }).pushFrame (.throwing q))) := by
  obtain ⟨mk, hnamed⟩ := Cond.code_named hcode
  obtain ⟨methM, cM, hmethM, -, -, -, -, -, -, hsigM⟩ := Cond.code_spec hnamed hcode
  have hstatic : methM.isStatic = true := Cond.static_spec hnamed hmethM hstat
  obtain ⟨kP, hkP, -⟩ := className_of_methodNamed hnamed
  have hinitP : kP.init = .initialized := Cond.initialized_spec (findClass_of_methodNamed hnamed) hkP hinit
  obtain ⟨vm₁, X₁, hstep₁⟩ := X.invokestatic hexec hown hlink hnamed hmethM hstatic hkP hinitP hy (g := g) hg (argsL := argsL) (rest := rest) (hlen _ hsigM) hstack hdg
  rcases hK m meth c ⟨T.setVm vm₁, locs, cells, slots⟩ { g with stack := rest } (.invokestatic index) mk argsL.toArray X₁ hg hsize hdg hW (X₁.named hnamed) (hpre vm₁ X₁.warmed) with ⟨v, B, X', hpost, hsteps⟩ | ⟨q, B, X', hpost, hsteps⟩
  · exact Or.inl ⟨v, vm₁, B, X₁.warmed, X', hpost, fun target h => hstep₁ _ fun acts => by rw [doInvoke_state]; exact hsteps.trans h⟩
  · exact Or.inr ⟨q, vm₁, B, X₁.warmed, X', hpost, hstep₁ _ fun acts => by rw [doInvoke_state]; exact hsteps⟩
end Calls
theorem vx_cls {s : State} {T : State} {vm₁ : Vm} {E : String} {k : ClassId} (hW : s.WarmedH vm₁) (h : (T.setVm vm₁).vm.findClass E = some k) : s.vm.findClass E = some k := by
  have h1 : vm₁.findClass E = some k := h
  rw [hW.alike.findClass] at h1
  exact h1
/-- the method's frame g, with q thrown over it -/
def vx_W (p : Program) (l : Launch) (e : Env) (R : Room) (s : State) (m : MethodId) (args : Array Value) (below : List Frame) (meth : Method) (c : Code) (H : Heap) (locs : List Loc) (cells slots : Nat) (Q : State → Prop) (g : JFrame) (q : Addr) : Prop :=
  ∀ T : State, T.heap = H → Stand p l e R s m args below meth c T locs cells slots → ∃ t, Steps p.tables e below ((T.setTop g).pushFrame (.throwing q)) t ∧ Q t
def vx_Run (p : Program) (l : Launch) (e : Env) (R : Room) (s : State) (m : MethodId) (args : Array Value) (below : List Frame) (meth : Method) (c : Code) (H : Heap) (locs : List Loc) (cells slots mc ms : Nat) (g : JFrame) (rest : List Value) (Qa : State → Outcome → State → Prop) (XC : String → State → State → Prop) (free : Addr → Prop) : Prop :=
  ∀ T : State, T.heap = H → Stand p l e R s m args below meth c T locs cells slots →
    (∃ (v : Option Value) (st₀ t T' : State) (L : List Loc), st₀.heap = H ∧ Stand p l e R s m args below meth c T' (locs ++ L) (cells + mc) (slots + ms) ∧ (∀ q ∈ L, free q.base) ∧ T'.heap = t.heap ∧ T'.vm = t.vm ∧ Qa st₀ (.returned v) t ∧
      Goes p e below T g T' { g with pc := g.pc + 3, stack := v.toList ++ rest }) ∨
    (∃ (q : Addr) (st₀ t T' : State) (L : List Loc) (E : String) (ce : Cell), st₀.heap = H ∧ Stand p l e R s m args below meth c T' (locs ++ L) (cells + mc) (slots + ms) ∧ (∀ z ∈ L, free z.base) ∧ T'.heap = t.heap ∧ T'.vm = t.vm ∧ XC E st₀ t ∧ t.heap[q]? = some ce ∧ ce.vm = .none ∧ s.vm.findClass E = some ce.cls ∧
      Steps p.tables e below (T.setTop g) ((T'.setTop { g with stack := rest }).pushFrame (.throwing q)))
def vx_X {S : Type} (px : S → Prop) (B : String → S → State → Prop) (A : Nat → Prop) : String → State → State → Prop := fun E st t => ∃ u : S, px u ∧ B E u t ∧ va_F A st t
section Runs
variable {p : Program} {l : Launch} {e : Env} {R : Room} {s : State} {m : MethodId} {args : Array Value} {below : List Frame} {meth : Method} {c : Code} {H : Heap} {locs : List Loc} {cells slots : Nat}
variable {y : MethodName} {bytes cc : ByteArray} {maxL nL mc ms n index : Nat} {ret : Option FieldType} {ws : List Cond} {rm : Room} {Pc : Array Value → State → Prop} {Qc : Array Value → State → Outcome → State → Prop} {XC : String → State → State → Prop} {free : Addr → Prop} {Ts : List Cond} {own C : String} {b : Addr} {As rest : List Value} {g : JFrame}
theorem vx_callBack (cb : CallB R s args own index y bytes maxL ret ws rm mc ms n) (hM : vx_Met l y ws rm Pc Qc XC mc ms free) (hbl : FrameBlind Pc) : vx_Back l R p e below s args y 3 8 (PreOf R mc ms Pc) (PostOf Qc mc ms free) (vx_Post XC mc ms free) := by
  obtain ⟨hrc, hrs, hfr, hlo, hws, hcw, -, hini, -⟩ := cb
  exact vx_back (bytes := bytes) (maxL := maxL) (ret := ret) hM hbl hrc hrs hfr hlo hws hcw (fun a' U hW => word_at hW (Or.inl (by first | rfl | simp [Cond.onTables, Cond.keeps, Cond.steady])) hini)
theorem vx_runV (S : CallFix p m c cc nL s args Ts own) (hM : vx_Met l y ws rm Pc Qc XC mc ms free) (cw : CallW R s args own C index y bytes maxL ret ws rm mc ms n) (hp : PreV s H C b Pc As)
    (hg : g.method = m) (hn : As.length = n) (hsize : g.locals.size = nL) (hstack : g.stack = As.reverse ++ .ref b :: rest) (hW : 2 * g.monitorRoom + (rest.map fun v => v.category).sum ≤ 8) (hdg : decode cc g.pc = .ok (.invokevirtual index, 3)) (hf : cells + mc ≤ R.cells ∧ slots + ms ≤ R.slots) :
    vx_Run p l e R s m args below meth c H locs cells slots mc ms g rest (Qc (Value.ref b :: As).toArray) XC free := by
  have hK : vx_Back l R p e below s args y 3 8 (PreOf R mc ms Pc) (PostOf Qc mc ms free) (vx_Post XC mc ms free) := vx_callBack cw.1 hM hp.1
  obtain ⟨⟨-, -, -, -, -, -, hcode, -, hy, hlen, hl⟩, hin, hse⟩ := cw
  obtain ⟨hx, hb, hml, ho, -⟩ := S
  obtain ⟨-, ⟨cellB, hcB, hoB, hclB⟩, hPc⟩ := hp
  intro T hT X
  rcases vx_callV X hx (C := C) (bytes := bytes) (maxL := maxL) (ret := ret) ho hl hin hse hcode hy hK (by rw [hT]; exact hcB) hoB hclB hg (hsize.trans hml.symm) (argsL := As) (rest := rest) (fun sig h => hn.trans (hlen sig h)) hstack hW (by rw [hb]; exact hdg)
    (fun vm₁ hW₁ => ⟨hf.1, hf.2, hPc (T.setVm vm₁) hT hW₁⟩) with ⟨v, vm₁, ⟨U', l2, c2, s2⟩, hW₁, X', ⟨g', mk, t, L, e1, e2, hq, h1, hL, h2, h3⟩, st⟩ | ⟨q, vm₁, ⟨U', l2, c2, s2⟩, hW₁, X', ⟨g', mk, t, L, E, ce, e1, e2, hq, hce, hcv, hcl, h1, hL, h2, h3⟩, st⟩
  · dsimp only [Pt.U, Pt.locs, Pt.cells, Pt.slots] at X' e1 e2 h1 h2 h3 st
    subst h1; subst h2; subst h3
    exact Or.inl ⟨v, (T.setVm vm₁).calling g' mk (Value.ref b :: As).toArray, t, U', L, hT, X', hL, e1, e2, hq, st⟩
  · dsimp only [Pt.U, Pt.locs, Pt.cells, Pt.slots] at X' e1 e2 h1 h2 h3 st hcl
    subst h1; subst h2; subst h3
    exact Or.inr ⟨q, (T.setVm vm₁).calling g' mk (Value.ref b :: As).toArray, t, U', L, E, ce, hT, X', hL, e1, e2, hq, hce, hcv, vx_cls hW₁ hcl, st⟩
theorem vx_runS (S : CallFix p m c cc nL s args Ts own) (hM : vx_Met l y ws rm Pc Qc XC mc ms free) (cw : CallB R s args own index y bytes maxL ret ws rm mc ms n ∧ (Cond.static y).before args s = true) (hp : PreS s H Pc As)
    (hg : g.method = m) (hn : As.length = n) (hsize : g.locals.size = nL) (hstack : g.stack = As.reverse ++ rest) (hW : 2 * g.monitorRoom + (rest.map fun v => v.category).sum ≤ 8) (hdg : decode cc g.pc = .ok (.invokestatic index, 3)) (hf : cells + mc ≤ R.cells ∧ slots + ms ≤ R.slots) :
    vx_Run p l e R s m args below meth c H locs cells slots mc ms g rest (Qc As.toArray) XC free := by
  have hK : vx_Back l R p e below s args y 3 8 (PreOf R mc ms Pc) (PostOf Qc mc ms free) (vx_Post XC mc ms free) := vx_callBack cw.1 hM hp.1
  obtain ⟨⟨-, -, -, -, -, -, hcode, hini, hy, hlen, hl⟩, hstt⟩ := cw
  obtain ⟨hx, hb, hml, ho, -⟩ := S
  intro T hT X
  rcases vx_callS X hx (bytes := bytes) (maxL := maxL) (ret := ret) ho hl hstt hini hcode hy hK hg (hsize.trans hml.symm) (argsL := As) (rest := rest) (fun sig h => hn.trans (hlen sig h)) hstack hW (by rw [hb]; exact hdg)
    (fun vm₁ hW₁ => ⟨hf.1, hf.2, hp.2 (T.setVm vm₁) hT hW₁⟩) with ⟨v, vm₁, ⟨U', l2, c2, s2⟩, hW₁, X', ⟨g', mk, t, L, e1, e2, hq, h1, hL, h2, h3⟩, st⟩ | ⟨q, vm₁, ⟨U', l2, c2, s2⟩, hW₁, X', ⟨g', mk, t, L, E, ce, e1, e2, hq, hce, hcv, hcl, h1, hL, h2, h3⟩, st⟩
  · dsimp only [Pt.U, Pt.locs, Pt.cells, Pt.slots] at X' e1 e2 h1 h2 h3 st
    subst h1; subst h2; subst h3
    exact Or.inl ⟨v, (T.setVm vm₁).calling g' mk As.toArray, t, U', L, hT, X', hL, e1, e2, hq, st⟩
  · dsimp only [Pt.U, Pt.locs, Pt.cells, Pt.slots] at X' e1 e2 h1 h2 h3 st hcl
    subst h1; subst h2; subst h3
    exact Or.inr ⟨q, (T.setVm vm₁).calling g' mk As.toArray, t, U', L, E, ce, hT, X', hL, e1, e2, hq, hce, hcv, vx_cls hW₁ hcl, st⟩
end Runs
section Rows
variable {p : Program} {l : Launch} {e : Env} {R : Room} {s : State} {m : MethodId} {args : Array Value} {below : List Frame} {meth : Method} {c : Code} {H : Heap} {locs : List Loc} {cells slots : Nat} {Q : State → Prop}
variable {mc ms : Nat} {free : Addr → Prop} {A0 A1 : Nat → Prop} {H0 : Heap} {a : Array Value} {pc : Nat} {ls : Array Slot} {st0 rest : List Value}
theorem vx_keep {st₀ t T' : State} {L : List Loc} (h0 : st₀.heap = H) (e1 : T'.heap = t.heap) (hS : va_S A0 H0 H locs) (hA : ∀ q, q < H.size → A1 q → A0 q) (hf : ∀ q, free q → A0 q) (hL : ∀ q ∈ L, free q.base) (hF : va_F A1 st₀ t) :
    H.size ≤ T'.heap.size ∧ (∀ q : Nat, q < H.size → ¬ A1 q → T'.heap[q]? = H[q]?) ∧ va_S A0 H0 T'.heap (locs ++ L) := by
  obtain ⟨hz, hk⟩ := hF
  rw [h0] at hz hk
  exact ⟨by rw [e1]; exact hz, fun q h1 h2 => by rw [e1]; exact hk q h1 h2,
    ⟨Nat.le_trans hS.1 (by rw [e1]; exact hz), fun q h1 h2 => by rw [e1, hk q (Nat.lt_of_lt_of_le h1 hS.1) (fun z => h2 (hA q (Nat.lt_of_lt_of_le h1 hS.1) z))]; exact hS.2.1 q h1 h2, fun q hq => by
      rcases List.mem_append.mp hq with h | h
      · exact hS.2.2 q h
      · exact hf _ (hL q h)⟩⟩
theorem vx_calli {S SX : Type} {post : Int32 → S → Prop} {px : SX → Prop} {B : S → State → Prop} {BX : String → SX → State → Prop} {AX : Nat → Prop} (hr : vx_Run p l e R s m args below meth c H locs cells slots mc ms (F0 m pc ls st0) rest (va_Qi post B A1 a) (vx_X px BX AX) free) (hS : va_S A0 H0 H locs) (hA : ∀ q, q < H.size → A1 q → A0 q) (hf : ∀ q, free q → A0 q) (hAX : ∀ q, q < H.size → AX q → A0 q)
    (kx : ∀ (E : String) (ce : Cell) (q9 : Addr) (u : SX) (t : State) (H1 : Heap) (locs1 : List Loc), t.heap = H1 → s.vm.Alike t.vm → px u → BX E u t → H.size ≤ H1.size → (∀ q : Nat, q < H.size → ¬ AX q → H1[q]? = H[q]?) → va_S A0 H0 H1 locs1 → H1[q9]? = some ce → ce.vm = .none → s.vm.findClass E = some ce.cls → vx_W p l e R s m args below meth c H1 locs1 (cells + mc) (slots + ms) Q (F0 m pc ls rest) q9)
    (kk : ∀ (r : Int32) (u : S) (t : State) (H1 : Heap) (locs1 : List Loc), t.heap = H1 → s.vm.Alike t.vm → post r u → B u t → H.size ≤ H1.size → (∀ q : Nat, q < H.size → ¬ A1 q → H1[q]? = H[q]?) → va_S A0 H0 H1 locs1 → W p l e R s m args below meth c H1 locs1 (cells + mc) (slots + ms) Q (F0 m (pc + 3) ls (.int r :: rest))) : W p l e R s m args below meth c H locs cells slots Q (F0 m pc ls st0) := by
  intro T hT X
  rcases hr T hT X with ⟨v, st₀, t, T', L, h0, X', hL, e1, e2, ⟨⟨r, u, hv, hp, hb⟩, hF⟩, st⟩ | ⟨q, st₀, t, T', L, E, ce, h0, X', hL, e1, e2, ⟨u, hp, hb, hF⟩, hce, hcv, hcl, st⟩
  · cases hv
    obtain ⟨k1, k2, k3⟩ := vx_keep h0 e1 hS hA hf hL hF
    obtain ⟨t2, a1, b1⟩ := kk r u t T'.heap (locs ++ L) e1.symm (by rw [← e2]; exact X'.warmed.alike) hp hb k1 k2 k3 T' rfl X'
    exact ⟨t2, st t2 a1, b1⟩
  · obtain ⟨k1, k2, k3⟩ := vx_keep h0 e1 hS hAX hf hL hF
    obtain ⟨t2, a1, b1⟩ := kx E ce q u t T'.heap (locs ++ L) e1.symm (by rw [← e2]; exact X'.warmed.alike) hp hb k1 k2 k3 (by rw [e1]; exact hce) hcv hcl T' rfl X'
    exact ⟨t2, st.trans a1, b1⟩
theorem vx_calll {S SX : Type} {post : Int64 → S → Prop} {px : SX → Prop} {B : S → State → Prop} {BX : String → SX → State → Prop} {AX : Nat → Prop} (hr : vx_Run p l e R s m args below meth c H locs cells slots mc ms (F0 m pc ls st0) rest (va_Ql post B A1 a) (vx_X px BX AX) free) (hS : va_S A0 H0 H locs) (hA : ∀ q, q < H.size → A1 q → A0 q) (hf : ∀ q, free q → A0 q) (hAX : ∀ q, q < H.size → AX q → A0 q)
    (kx : ∀ (E : String) (ce : Cell) (q9 : Addr) (u : SX) (t : State) (H1 : Heap) (locs1 : List Loc), t.heap = H1 → s.vm.Alike t.vm → px u → BX E u t → H.size ≤ H1.size → (∀ q : Nat, q < H.size → ¬ AX q → H1[q]? = H[q]?) → va_S A0 H0 H1 locs1 → H1[q9]? = some ce → ce.vm = .none → s.vm.findClass E = some ce.cls → vx_W p l e R s m args below meth c H1 locs1 (cells + mc) (slots + ms) Q (F0 m pc ls rest) q9)
    (kk : ∀ (r : Int64) (u : S) (t : State) (H1 : Heap) (locs1 : List Loc), t.heap = H1 → s.vm.Alike t.vm → post r u → B u t → H.size ≤ H1.size → (∀ q : Nat, q < H.size → ¬ A1 q → H1[q]? = H[q]?) → va_S A0 H0 H1 locs1 → W p l e R s m args below meth c H1 locs1 (cells + mc) (slots + ms) Q (F0 m (pc + 3) ls (.long r :: rest))) : W p l e R s m args below meth c H locs cells slots Q (F0 m pc ls st0) := by
  intro T hT X
  rcases hr T hT X with ⟨v, st₀, t, T', L, h0, X', hL, e1, e2, ⟨⟨r, u, hv, hp, hb⟩, hF⟩, st⟩ | ⟨q, st₀, t, T', L, E, ce, h0, X', hL, e1, e2, ⟨u, hp, hb, hF⟩, hce, hcv, hcl, st⟩
  · cases hv
    obtain ⟨k1, k2, k3⟩ := vx_keep h0 e1 hS hA hf hL hF
    obtain ⟨t2, a1, b1⟩ := kk r u t T'.heap (locs ++ L) e1.symm (by rw [← e2]; exact X'.warmed.alike) hp hb k1 k2 k3 T' rfl X'
    exact ⟨t2, st t2 a1, b1⟩
  · obtain ⟨k1, k2, k3⟩ := vx_keep h0 e1 hS hAX hf hL hF
    obtain ⟨t2, a1, b1⟩ := kx E ce q u t T'.heap (locs ++ L) e1.symm (by rw [← e2]; exact X'.warmed.alike) hp hb k1 k2 k3 (by rw [e1]; exact hce) hcv hcl T' rfl X'
    exact ⟨t2, st.trans a1, b1⟩
theorem vx_callf {S SX : Type} {post : UInt32 → S → Prop} {px : SX → Prop} {B : S → State → Prop} {BX : String → SX → State → Prop} {AX : Nat → Prop} (hr : vx_Run p l e R s m args below meth c H locs cells slots mc ms (F0 m pc ls st0) rest (va_Qf post B A1 a) (vx_X px BX AX) free) (hS : va_S A0 H0 H locs) (hA : ∀ q, q < H.size → A1 q → A0 q) (hf : ∀ q, free q → A0 q) (hAX : ∀ q, q < H.size → AX q → A0 q)
    (kx : ∀ (E : String) (ce : Cell) (q9 : Addr) (u : SX) (t : State) (H1 : Heap) (locs1 : List Loc), t.heap = H1 → s.vm.Alike t.vm → px u → BX E u t → H.size ≤ H1.size → (∀ q : Nat, q < H.size → ¬ AX q → H1[q]? = H[q]?) → va_S A0 H0 H1 locs1 → H1[q9]? = some ce → ce.vm = .none → s.vm.findClass E = some ce.cls → vx_W p l e R s m args below meth c H1 locs1 (cells + mc) (slots + ms) Q (F0 m pc ls rest) q9)
    (kk : ∀ (r : UInt32) (u : S) (t : State) (H1 : Heap) (locs1 : List Loc), t.heap = H1 → s.vm.Alike t.vm → post r u → B u t → H.size ≤ H1.size → (∀ q : Nat, q < H.size → ¬ A1 q → H1[q]? = H[q]?) → va_S A0 H0 H1 locs1 → W p l e R s m args below meth c H1 locs1 (cells + mc) (slots + ms) Q (F0 m (pc + 3) ls (.float r :: rest))) : W p l e R s m args below meth c H locs cells slots Q (F0 m pc ls st0) := by
  intro T hT X
  rcases hr T hT X with ⟨v, st₀, t, T', L, h0, X', hL, e1, e2, ⟨⟨r, u, hv, hp, hb⟩, hF⟩, st⟩ | ⟨q, st₀, t, T', L, E, ce, h0, X', hL, e1, e2, ⟨u, hp, hb, hF⟩, hce, hcv, hcl, st⟩
  · cases hv
    obtain ⟨k1, k2, k3⟩ := vx_keep h0 e1 hS hA hf hL hF
    obtain ⟨t2, a1, b1⟩ := kk r u t T'.heap (locs ++ L) e1.symm (by rw [← e2]; exact X'.warmed.alike) hp hb k1 k2 k3 T' rfl X'
    exact ⟨t2, st t2 a1, b1⟩
  · obtain ⟨k1, k2, k3⟩ := vx_keep h0 e1 hS hAX hf hL hF
    obtain ⟨t2, a1, b1⟩ := kx E ce q u t T'.heap (locs ++ L) e1.symm (by rw [← e2]; exact X'.warmed.alike) hp hb k1 k2 k3 (by rw [e1]; exact hce) hcv hcl T' rfl X'
    exact ⟨t2, st.trans a1, b1⟩
theorem vx_calld {S SX : Type} {post : UInt64 → S → Prop} {px : SX → Prop} {B : S → State → Prop} {BX : String → SX → State → Prop} {AX : Nat → Prop} (hr : vx_Run p l e R s m args below meth c H locs cells slots mc ms (F0 m pc ls st0) rest (va_Qd post B A1 a) (vx_X px BX AX) free) (hS : va_S A0 H0 H locs) (hA : ∀ q, q < H.size → A1 q → A0 q) (hf : ∀ q, free q → A0 q) (hAX : ∀ q, q < H.size → AX q → A0 q)
    (kx : ∀ (E : String) (ce : Cell) (q9 : Addr) (u : SX) (t : State) (H1 : Heap) (locs1 : List Loc), t.heap = H1 → s.vm.Alike t.vm → px u → BX E u t → H.size ≤ H1.size → (∀ q : Nat, q < H.size → ¬ AX q → H1[q]? = H[q]?) → va_S A0 H0 H1 locs1 → H1[q9]? = some ce → ce.vm = .none → s.vm.findClass E = some ce.cls → vx_W p l e R s m args below meth c H1 locs1 (cells + mc) (slots + ms) Q (F0 m pc ls rest) q9)
    (kk : ∀ (r : UInt64) (u : S) (t : State) (H1 : Heap) (locs1 : List Loc), t.heap = H1 → s.vm.Alike t.vm → post r u → B u t → H.size ≤ H1.size → (∀ q : Nat, q < H.size → ¬ A1 q → H1[q]? = H[q]?) → va_S A0 H0 H1 locs1 → W p l e R s m args below meth c H1 locs1 (cells + mc) (slots + ms) Q (F0 m (pc + 3) ls (.double r :: rest))) : W p l e R s m args below meth c H locs cells slots Q (F0 m pc ls st0) := by
  intro T hT X
  rcases hr T hT X with ⟨v, st₀, t, T', L, h0, X', hL, e1, e2, ⟨⟨r, u, hv, hp, hb⟩, hF⟩, st⟩ | ⟨q, st₀, t, T', L, E, ce, h0, X', hL, e1, e2, ⟨u, hp, hb, hF⟩, hce, hcv, hcl, st⟩
  · cases hv
    obtain ⟨k1, k2, k3⟩ := vx_keep h0 e1 hS hA hf hL hF
    obtain ⟨t2, a1, b1⟩ := kk r u t T'.heap (locs ++ L) e1.symm (by rw [← e2]; exact X'.warmed.alike) hp hb k1 k2 k3 T' rfl X'
    exact ⟨t2, st t2 a1, b1⟩
  · obtain ⟨k1, k2, k3⟩ := vx_keep h0 e1 hS hAX hf hL hF
    obtain ⟨t2, a1, b1⟩ := kx E ce q u t T'.heap (locs ++ L) e1.symm (by rw [← e2]; exact X'.warmed.alike) hp hb k1 k2 k3 (by rw [e1]; exact hce) hcv hcl T' rfl X'
    exact ⟨t2, st.trans a1, b1⟩
theorem vx_callv {S SX : Type} {post : S → Prop} {px : SX → Prop} {B : S → State → Prop} {BX : String → SX → State → Prop} {AX : Nat → Prop} (hr : vx_Run p l e R s m args below meth c H locs cells slots mc ms (F0 m pc ls st0) rest (va_Qv post B A1 a) (vx_X px BX AX) free) (hS : va_S A0 H0 H locs) (hA : ∀ q, q < H.size → A1 q → A0 q) (hf : ∀ q, free q → A0 q) (hAX : ∀ q, q < H.size → AX q → A0 q)
    (kx : ∀ (E : String) (ce : Cell) (q9 : Addr) (u : SX) (t : State) (H1 : Heap) (locs1 : List Loc), t.heap = H1 → s.vm.Alike t.vm → px u → BX E u t → H.size ≤ H1.size → (∀ q : Nat, q < H.size → ¬ AX q → H1[q]? = H[q]?) → va_S A0 H0 H1 locs1 → H1[q9]? = some ce → ce.vm = .none → s.vm.findClass E = some ce.cls → vx_W p l e R s m args below meth c H1 locs1 (cells + mc) (slots + ms) Q (F0 m pc ls rest) q9)
    (kk : ∀ (u : S) (t : State) (H1 : Heap) (locs1 : List Loc), t.heap = H1 → s.vm.Alike t.vm → post u → B u t → H.size ≤ H1.size → (∀ q : Nat, q < H.size → ¬ A1 q → H1[q]? = H[q]?) → va_S A0 H0 H1 locs1 → W p l e R s m args below meth c H1 locs1 (cells + mc) (slots + ms) Q (F0 m (pc + 3) ls (rest))) : W p l e R s m args below meth c H locs cells slots Q (F0 m pc ls st0) := by
  intro T hT X
  rcases hr T hT X with ⟨v, st₀, t, T', L, h0, X', hL, e1, e2, ⟨⟨u, hv, hp, hb⟩, hF⟩, st⟩ | ⟨q, st₀, t, T', L, E, ce, h0, X', hL, e1, e2, ⟨u, hp, hb, hF⟩, hce, hcv, hcl, st⟩
  · cases hv
    obtain ⟨k1, k2, k3⟩ := vx_keep h0 e1 hS hA hf hL hF
    obtain ⟨t2, a1, b1⟩ := kk u t T'.heap (locs ++ L) e1.symm (by rw [← e2]; exact X'.warmed.alike) hp hb k1 k2 k3 T' rfl X'
    exact ⟨t2, st t2 a1, b1⟩
  · obtain ⟨k1, k2, k3⟩ := vx_keep h0 e1 hS hAX hf hL hF
    obtain ⟨t2, a1, b1⟩ := kx E ce q u t T'.heap (locs ++ L) e1.symm (by rw [← e2]; exact X'.warmed.alike) hp hb k1 k2 k3 (by rw [e1]; exact hce) hcv hcl T' rfl X'
    exact ⟨t2, st.trans a1, b1⟩
/-- caught by the row x of this method's table; the rows ahead don't take it -/
theorem vx_catch {own name : String} {E : String} {ce : Cell} {q : Addr} (hown : s.vm.findClass own = some m.cls) (pre : List ExceptionTableEntry) (x : ExceptionTableEntry) (suf : List ExceptionTableEntry) (hsplit : c.exceptionTable.toList = pre ++ x :: suf)
    (hpass : ∀ z ∈ pre, covers z pc = false ∨ (z.catchType ≠ 0 ∧ ∃ nm : String, (Cond.classLink own z.catchType nm).before args s = true ∧ va_Nc E nm s)) (hx : covers x pc = true) (h0 : x.catchType ≠ 0)
    (hlink : (Cond.classLink own x.catchType name).before args s = true) (hcast : (Cond.castable E name).before args s = true) (hcell : H[q]? = some ce) (hv : ce.vm = .none) (hcl : s.vm.findClass E = some ce.cls)
    (kk : W p l e R s m args below meth c H locs cells slots Q (F0 m x.handlerPc ls [.ref q])) : vx_W p l e R s m args below meth c H locs cells slots Q (F0 m pc ls rest) q := by
  intro T hT X
  have hpl : e.platform.magicAccessors = ({} : Platform).magicAccessors := by rw [X.admits.platform]
  obtain ⟨c3, c4, hc3, hc4, hasg⟩ := Cond.castable_spec hcast
  cases Option.some.inj (hc3.symm.trans hcl)
  obtain ⟨c5, hc5, hcl5⟩ := Cond.classLink_spec hown hlink e.platform hpl
  cases Option.some.inj (hc4.symm.trans hc5)
  obtain ⟨vm', X', st⟩ := X.thenCaughtThrough q (g := F0 m pc ls rest) rfl (Steps.refl _) (by rw [hT]; exact hcell) (by rw [hv]; rfl) (by obtain ⟨k9, h9, -⟩ := Vm.findClass_spec hcl; exact ⟨k9, h9⟩) pre x suf hsplit
    (fun z hz => by
      rcases hpass z hz with h | ⟨hz0, nm, hl1, hn1⟩
      · exact Or.inl h
      · obtain ⟨c6, hc6, hcl6⟩ := Cond.classLink_spec hown hl1 e.platform hpl
        obtain ⟨a8, b8, h1, h2, h3⟩ := hn1
        cases Option.some.inj (h1.symm.trans hcl)
        cases Option.some.inj (h2.symm.trans hc6)
        exact Or.inr ⟨hz0, _, hcl6, h3⟩) hx (Or.inr ⟨h0, c4, hcl5, hasg⟩)
  obtain ⟨t, a1, b1⟩ := kk (T.setVm vm') hT X'
  exact ⟨t, st.trans a1, b1⟩
end Rows
section Ends
variable {p : Program} {l : Launch} {e : Env} {R : Room} {s : State} {m : MethodId} {args : Array Value} {below : List Frame} {meth : Method} {c : Code} {H : Heap} {locs : List Loc} {cells slots : Nat} {Q : State → Prop}
variable {mc ms : Nat} {free : Addr → Prop} {A0 A1 : Nat → Prop} {H0 : Heap} {a : Array Value} {ls : Array Slot} {st0 rest : List Value}
variable {Qc : Array Value → State → Outcome → State → Prop} {XC : String → State → State → Prop}
/-- what a body that may throw owes at its end -/
def vx_MQ (below : List Frame) (Qc : Array Value → State → Outcome → State → Prop) (XC : String → State → State → Prop) (a : Array Value) (s : State) (mc ms : Nat) (free : Addr → Prop) : State → Prop := fun t =>
  ∃ o, t.status = .running ∧ Ended t below o ∧ vx_Q Qc XC mc ms free a s o t
theorem vx_ret {g : JFrame} {mc ms : Nat} (k : W p l e R s m args below meth c H locs cells slots (MQ below Qc args s mc ms free) g) : W p l e R s m args below meth c H locs cells slots (vx_MQ below Qc XC args s mc ms free) g := by
  intro T hT X
  obtain ⟨t, a1, o, b1, b2, b3, b4⟩ := k T hT X
  exact ⟨t, a1, o, b1, b2, Or.inl ⟨b3, b4⟩⟩
/-- not caught here: it goes on to the caller -/
theorem vx_widen {g : JFrame} {q : Addr} {k n : Nat} (h1 : cells ≤ k) (h2 : slots ≤ n) (kk : vx_W p l e R s m args below meth c H locs k n Q g q) : vx_W p l e R s m args below meth c H locs cells slots Q g q := fun T hT X => kk T hT (stand_widen X h1 h2)
theorem vx_out {pc : Nat} {E : String} {ce : Cell} {q : Addr} {mc ms : Nat} (hout : ∀ x ∈ c.exceptionTable.toList, covers x pc = false) (hlocks : meth.locks = false) (hcell : H[q]? = some ce) (hv : ce.vm = .none) (hcl : s.vm.findClass E = some ce.cls)
    (hx : ∀ t : State, t.heap = H → s.vm.Alike t.vm → XC E s t) (hf : ∀ z ∈ locs, free z.base) (hc : cells ≤ mc) (hs : slots ≤ ms) :
    vx_W p l e R s m args below meth c H locs cells slots (vx_MQ below Qc XC args s mc ms free) (F0 m pc ls rest) q := by
  intro T hT X
  obtain ⟨st1, hrun, hend, hW, hsm⟩ := X.leaveThrown q (g := F0 m pc ls rest) rfl rfl rfl hout hlocks
  have hcell9 : (T.setFrames (.throwing q :: below)).heap[q]? = some ce := by
    show T.heap[q]? = some ce
    rw [hT]; exact hcell
  exact ⟨_, st1, .threw q, hrun, hend, Or.inr ⟨q, rfl, E, ce, locs, hx _ hT hW.alike, hcell9, hv, hcl, hW, hsm.mono hc hs, hf⟩⟩
theorem vx_frame {U : State} {k n : Nat} (h : s.sameButNew ({ U with vm := s.vm } : State) locs k n) : s.heap.size ≤ U.heap.size ∧ ∀ q : Nat, q < s.heap.size → (∀ z ∈ locs, z.base ≠ q) → U.heap[q]? = s.heap[q]? := by
  obtain ⟨-, h2, -, -, -, h6⟩ := h
  refine ⟨h2, fun q hq hz => ?_⟩
  obtain ⟨c9, e1, e2, e3, e4⟩ := h6 q _ (Array.getElem?_eq_getElem hq)
  have hs : c9.slots = (s.heap[q]).slots := Array.ext_getElem? fun i => e4 i fun hm => hz _ hm rfl
  have h9 : c9 = s.heap[q] := by
    rw [hs] at e2
    exact e2
  have e5 : U.heap[q]? = some c9 := e1
  rw [e5, h9, Array.getElem?_eq_getElem hq]
/-- the words of a throw but the four that speak of the heap -/
def vx_no (w : Cond) : Bool := decide (w ≠ .isRef (.static Bundle.tN "UNASSIGNED_STACK" Bundle.steD)) && decide (w ≠ .isRef (.static Bundle.tN "SUPPRESSED_SENTINEL" Bundle.listD)) && decide (w ≠ .laysStatic Bundle.tN "UNASSIGNED_STACK" Bundle.steD) && decide (w ≠ .laysStatic Bundle.tN "SUPPRESSED_SENTINEL" Bundle.listD)
def vx_at0 (own : String) (ic : Nat) (X : String) (names : List String) : List Cond := (Bundle.ownAtoms0 own ic X names).filter vx_no
def vx_atS (own : String) (ic : Nat) (X : String) (names : List String) : List Cond := (Bundle.ownAtoms own ic X names).filter vx_no
/-- a word that the tables alone decide, or a good one -/
def vx_ot (w : Cond) : Bool := w.onTables || goodWord w
theorem vx_ot_at {args a' : Array Value} {s U : State} {w : Cond} (hW : s.WarmedH U.vm) (hvm : s.vm = U.vm) (hg : vx_ot w = true) (h : w.before args s = true) : w.before a' U = true := by
  simp only [vx_ot, Bool.or_eq_true] at hg
  rcases hg with hg | hg
  · exact va_tabs hg hvm h
  · exact word_at hW (good_of_word hg) h
/-- a list's words: the good ones out of the method's own list, the others by premises of their own -/
theorem vx_hat {args : Array Value} {s : State} {L B : List Cond} (h1 : ∀ w ∈ L.filter goodWord, w.before args s = true) (h2 : ∀ w ∈ L.filter (fun w => !goodWord w), w ∈ B) (h3 : ∀ w ∈ B, w.before args s = true) : ∀ w ∈ L, w.before args s = true := by
  intro w hw
  by_cases g : goodWord w = true
  · exact h1 w (List.mem_filter.mpr ⟨hw, g⟩)
  · refine h3 w (h2 w (List.mem_filter.mpr ⟨hw, ?_⟩))
    show (!goodWord w) = true
    cases hgw : goodWord w
    · rfl
    · exact absurd hgw g
theorem vx_c {args : Array Value} {s : State} {w : Cond} {B : List Cond} (h : w.before args s = true) (t : ∀ w ∈ B, w.before args s = true) : ∀ w' ∈ w :: B, w'.before args s = true := fun w' h' => (List.mem_cons.mp h').elim (fun e => by rw [e]; exact h) (t w')
theorem vx_n {args : Array Value} {s : State} : ∀ w ∈ ([] : List Cond), w.before args s = true := fun _ h => nomatch h
theorem vx_own {args : Array Value} {s : State} {L : List Cond} (h1 : ∀ w ∈ L.filter vx_no, w.before args s = true)
    (hU : (Cond.isRef (.static Bundle.tN "UNASSIGNED_STACK" Bundle.steD)).before args s = true) (hN : (Cond.isRef (.static Bundle.tN "SUPPRESSED_SENTINEL" Bundle.listD)).before args s = true)
    (lU : (Cond.laysStatic Bundle.tN "UNASSIGNED_STACK" Bundle.steD).before args s = true) (lN : (Cond.laysStatic Bundle.tN "SUPPRESSED_SENTINEL" Bundle.listD).before args s = true) : ∀ w ∈ L, w.before args s = true := by
  intro w hw
  by_cases e1 : w = .isRef (.static Bundle.tN "UNASSIGNED_STACK" Bundle.steD)
  · rw [e1]; exact hU
  · by_cases e2 : w = .isRef (.static Bundle.tN "SUPPRESSED_SENTINEL" Bundle.listD)
    · rw [e2]; exact hN
    · by_cases e3 : w = .laysStatic Bundle.tN "UNASSIGNED_STACK" Bundle.steD
      · rw [e3]; exact lU
      · by_cases e4 : w = .laysStatic Bundle.tN "SUPPRESSED_SENTINEL" Bundle.listD
        · rw [e4]; exact lN
        · exact h1 w (List.mem_filter.mpr ⟨hw, by unfold vx_no; rw [decide_eq_true e1, decide_eq_true e2, decide_eq_true e3, decide_eq_true e4]; rfl⟩)
/-- where a static field lies, its class's statics cell in H -/
def vx_L (C n d : String) (A : Nat → Prop) (U : State) (H : Heap) : Prop := ∃ (c : ClassId) (k : Class) (i : Nat) (f : Field) (a : Nat) (cell : Cell), U.vm.findClass C = some c ∧ U.fieldFound? C n d = some (c, k, i, f) ∧ f.isStatic = true ∧ k.statics = some a ∧ H[a]? = some cell ∧ cell.vm.isStatics = true ∧ cell.cls = c ∧ f.slot < cell.slots.size ∧ k.staticTypes[f.slot]? = some f.type ∧ ¬ A a
theorem vx_L.moved {C n d : String} {A : Nat → Prop} {u U : State} {H : Heap} (hvm : u.vm.Alike U.vm) (h : vx_L C n d A u H) : vx_L C n d A U H := by
  obtain ⟨c, k, i, f, a, cell, h1, h2, h3, h4, h5, h6, h7, h8, h9, h10⟩ := h
  obtain ⟨k', hi', he⟩ := State.fieldFound?_setVm hvm h2
  exact ⟨c, k', i, f, a, cell, by rw [hvm.findClass]; exact h1, hi', h3, by rw [he]; exact h4, h5, h6, h7, h8, by rw [he]; exact h9, h10⟩
theorem vx_L.kept {C n d : String} {A : Nat → Prop} {U : State} {H H1 : Heap} (h : vx_L C n d A U H) (hq : ∀ a : Nat, a < H.size → ¬ A a → H1[a]? = H[a]?) : vx_L C n d A U H1 := by
  obtain ⟨c, k, i, f, a, cell, h1, h2, h3, h4, h5, h6, h7, h8, h9, h10⟩ := h
  exact ⟨c, k, i, f, a, cell, h1, h2, h3, h4, by rw [hq a (Array.getElem?_eq_some_iff.mp h5).1 h10]; exact h5, h6, h7, h8, h9, h10⟩
theorem vx_L.narrow {C n d : String} {A B : Nat → Prop} {U : State} {H : Heap} (h : vx_L C n d A U H) (hAB : ∀ q, B q → A q) : vx_L C n d B U H := by
  obtain ⟨c, k, i, f, a, cell, h1, h2, h3, h4, h5, h6, h7, h8, h9, h10⟩ := h
  exact ⟨c, k, i, f, a, cell, h1, h2, h3, h4, h5, h6, h7, h8, h9, fun z => h10 (hAB _ z)⟩
theorem vx_L.word {C n d : String} {A : Nat → Prop} {s : State} {args : Array Value} (h : vx_L C n d A s s.heap) : (Cond.laysStatic C n d).before args s = true := by
  obtain ⟨c, k, i, f, a, cell, h1, h2, h3, h4, h5, h6, h7, h8, h9, -⟩ := h
  show (Cond.laysStatic C n d).holds args s none s [] = true
  exact Cond.laysStatic_of h1 h2 h3 h4 h5 h6 h7 h8 h9
/-- .. and what it holds: null or some reference -/
def vx_Zq (C n d : String) (A : Nat → Prop) (U : State) (H : Heap) : Prop := va_Zq C n d A U H ∧ vx_L C n d A U H
theorem vx_Zq.moved {C n d : String} {A : Nat → Prop} {u U : State} {H : Heap} (hvm : u.vm.Alike U.vm) (h : vx_Zq C n d A u H) : vx_Zq C n d A U H := ⟨va_Zq.moved hvm h.1, vx_L.moved hvm h.2⟩
theorem vx_Zq.kept {C n d : String} {A : Nat → Prop} {U : State} {H H1 : Heap} (h : vx_Zq C n d A U H) (hq : ∀ a : Nat, a < H.size → ¬ A a → H1[a]? = H[a]?) : vx_Zq C n d A U H1 := ⟨va_Zq.kept h.1 hq, vx_L.kept h.2 hq⟩
theorem vx_Zq.narrow {C n d : String} {A B : Nat → Prop} {U : State} {H : Heap} (h : vx_Zq C n d A U H) (hAB : ∀ q, B q → A q) : vx_Zq C n d B U H := ⟨va_Zq.narrow h.1 hAB, vx_L.narrow h.2 hAB⟩
theorem vx_Zqof {args : Array Value} {s : State} {C n d : String} {A : Nat → Prop} (hl : (Cond.laysStatic C n d).before args s = true) (hini : (Cond.initialized C).before args s = true) (h : (Cond.isRef (.static C n d)).before args s = true) (hA : ∀ a : Nat, a < s.heap.size → ¬ A a) : vx_Zq C n d A s s.heap := by
  refine ⟨va_Zqof hl hini h hA, ?_⟩
  obtain ⟨c, k, i, f, a, cell, h1, h2, h3, h4, h5, h6, h7, h8, h9⟩ := Cond.laysStatic_spec hl
  exact ⟨c, k, i, f, a, cell, h1, h2, h3, h4, h5, h6, h7, h8, h9, hA a (Array.getElem?_eq_some_iff.mp h5).1⟩
theorem vx_isRef {C n d : String} {v : Value} {A : Nat → Prop} {s : State} {args : Array Value} (h : va_Z C n d v A s s.heap) (hv : v.isRef = true) : (Cond.isRef (.static C n d)).before args s = true := by
  obtain ⟨cf, kf, fi, f, a, cell, h1, h2, h3, h4, h5, h6, h7, -⟩ := h
  have he : (Term.static C n d).eval args s none [] s = some v := by
    simp [Term.eval, State.fieldNamed?, h1, h2, h4, h5, h6, h7]
  simp only [Cond.before, Cond.holds, Cond.value, he]
  cases v <;> simp_all [Value.isRef]
theorem vx_isRefq {C n d : String} {A : Nat → Prop} {s : State} {args : Array Value} (h : va_Zq C n d A s s.heap) : (Cond.isRef (.static C n d)).before args s = true := by
  rcases h with h | ⟨t, h⟩
  · exact vx_isRef h rfl
  · exact vx_isRef h rfl
/-- the same frame, seen from here: as if the method were called anew in this heap -/
theorem vx_rebase {T : State} (X : Stand p l e R s m args below meth c T locs cells slots) {R' : Room} (hf : R'.frames ≤ R.frames) (hl : R'.locals ≤ R.locals) (hc : cells + R'.cells ≤ R.cells) (hs : slots + R'.slots ≤ R.slots) :
    Stand p l e R' ((T.setVm s.vm).setFrames (.invoking m args :: below)) m args below meth c T [] 0 0 := by
  have htop : (T.setVm s.vm).topJava?.isSome := X.here.top
  have hF : ((T.setVm s.vm).setFrames (.invoking m args :: below)).frames = .invoking m args :: below := State.frames_setFrames _ (State.cur_lt_of_top htop)
  obtain ⟨g₀, hg0⟩ := Option.isSome_iff_exists.mp htop
  obtain ⟨r, hr⟩ := State.topJava?_eq_some.mp hg0
  have hl9 : e.platform.stackLimits (T.setVm s.vm).me = e.platform.stackLimits s.me := X.limits
  have hb9 : (T.setVm s.vm).me.stackBytes = s.me.stackBytes := X.bytes
  refine ⟨X.admits, X.cas, X.clock, hF, ?_, X.hears, X.method, X.code, X.here, X.tail, X.warmed, ?_, ?_, ?_⟩
  · have h := X.room
    have hU : ((T.setVm s.vm).setFrames (.invoking m args :: below)).localsInUse = s.localsInUse := by
      rw [State.localsInUse_invoking hF (meth := meth) (c := c) X.method X.code, State.localsInUse_invoking X.frames X.method X.code]
    simp only [State.hasRoom, Bool.and_eq_true, decide_eq_true_eq] at h ⊢
    obtain ⟨⟨⟨⟨h1, h2, h3, h4, h5, h6⟩, h7⟩, h8⟩, h9⟩ := h
    rw [X.frames, List.length_cons] at h2 h3
    have q1 := X.heapSize
    have q2 := X.used
    simp only [hF, hU, List.length_cons, State.stackLimits_setFrames, State.stackBytes_setFrames, hl9, hb9]
    refine ⟨⟨⟨⟨by omega, by omega, by omega, by omega, by omega, h6⟩, ?_⟩, ?_⟩, X.book⟩
    · show T.heap.size + R'.cells ≤ e.platform.maxCells
      omega
    · show T.slotsUsed + R'.slots ≤ e.platform.maxSlots
      omega
  · rw [State.stackLimits_setFrames]; rfl
  · rw [State.stackBytes_setFrames]; rfl
  · refine ⟨?_, Nat.le_refl _, Nat.le_refl _, ?_, ?_, fun a c9 h9 => ⟨c9, h9, rfl, rfl, fun _ _ => rfl⟩⟩
    · obtain ⟨t, ht, -⟩ := State.frames_cons hr
      show T.setVm s.vm = { ((T.setVm s.vm).setFrames (.invoking m args :: below)).setFrames (T.setVm s.vm).frames with heap := T.heap, slotsUsed := T.slotsUsed }
      rw [State.setFrames_setFrames, State.setFrames_self ht]
      rfl
    · show T.slotsUsed = T.slotsUsed + ((T.heap.toList.drop T.heap.size).map (·.slots.size)).sum
      rw [List.drop_eq_nil_of_le (Nat.le_of_eq Array.length_toList)]
      rfl
    · show ((T.heap.toList.drop T.heap.size).map (·.slots.size)).sum ≤ 0
      rw [List.drop_eq_nil_of_le (Nat.le_of_eq Array.length_toList)]
      exact Nat.le_refl _
/-- 'throw new E()': new; dup; invokespecial; athrow -/
theorem vx_throw0 {cc : ByteArray} {pc : Nat} (hexec : p.tables.exec = Jvm.exec) (hb : c.code = cc) (hl : l.stackTraces = false) {own cls : String} {names : List String} {ik ic mc ms : Nat} {A : Nat → Prop}
    (hown : s.vm.findClass own = some m.cls) (hcls : Bundle.fit cls = true) (hnames : ∀ n ∈ names, Bundle.fit n = true)
    (hk : (Cond.classLink own ik cls).before args s = true) (hini : (Cond.initialized cls).before args s = true) (hat : ∀ w ∈ vx_at0 own ic cls names, w.before args s = true)
    (hgood : ∀ w ∈ Cond.classLink own ik cls :: Cond.initialized cls :: vx_at0 own ic cls names, vx_ot w = true)
    (hU : vx_Zq Bundle.tN "UNASSIGNED_STACK" Bundle.steD A s s.heap) (hN : vx_Zq Bundle.tN "SUPPRESSED_SENTINEL" Bundle.listD A s s.heap) (hS : va_S A s.heap H locs) (hsize : ls.size = c.maxLocals)
    (d0 : decode cc pc = .ok (.new ik, 3)) (d3 : decode cc (pc + 3) = .ok (.dup, 1)) (d4 : decode cc (pc + 4) = .ok (.invokespecial ic, 3)) (d7 : decode cc (pc + 7) = .ok (.athrow, 1))
    (hout : ∀ x ∈ c.exceptionTable.toList, covers x (pc + 7) = false)
    (hRframes : names.length + 3 < R.frames) (hRlocals : (rest.map fun v => v.category).sum + (13 * (names.length + 1) + 42) ≤ R.locals) (hRcells : cells + 1 ≤ R.cells) (hRslots : slots + 6 ≤ R.slots) (hlocks : meth.locks = false)
    (hx : ∀ t : State, s.vm.Alike t.vm → H.size ≤ t.heap.size → (∀ q : Nat, q < H.size → t.heap[q]? = H[q]?) → XC cls s t)
    (hf : ∀ z ∈ locs, free z.base) (hc : cells + 1 ≤ mc) (hs : slots + 6 ≤ ms) :
    W p l e R s m args below meth c H locs cells slots (vx_MQ below Qc XC args s mc ms free) (F0 m pc ls rest) := by
  intro T hT X
  have htr : e.platform.stackTraces = false := (show e.platform.stackTraces = l.stackTraces by rw [X.admits.platform]).trans hl
  have Y := vx_rebase X (R' := { frames := R.frames, locals := R.locals, cells := 1, slots := 6 }) (Nat.le_refl _) (Nat.le_refl _) hRcells hRslots
  obtain ⟨s', hA⟩ : ∃ z, z = (T.setVm s.vm).setFrames (.invoking m args :: below) := ⟨_, rfl⟩
  rw [← hA] at Y
  have hvm : s'.vm = s.vm := by rw [hA]; rfl
  have hhp : s'.heap = H := by rw [hA]; exact hT
  have hW0 : s.WarmedH s'.vm := by rw [hvm]; exact State.WarmedH.refl s
  have hat' : ∀ w ∈ vx_at0 own ic cls names, w.before args s' = true := fun w hw => vx_ot_at hW0 hvm.symm (hgood w (List.mem_cons_of_mem _ (List.mem_cons_of_mem _ hw))) (hat w hw)
  have hk' : (Cond.classLink own ik cls).before args s' = true := vx_ot_at hW0 hvm.symm (hgood _ List.mem_cons_self) hk
  have hini' : (Cond.initialized cls).before args s' = true := vx_ot_at hW0 hvm.symm (hgood _ (List.mem_cons_of_mem _ List.mem_cons_self)) hini
  have hU' : vx_Zq Bundle.tN "UNASSIGNED_STACK" Bundle.steD A s' s'.heap := by rw [hhp]; exact vx_Zq.moved hW0.alike (hU.kept hS.2.1)
  have hN' : vx_Zq Bundle.tN "SUPPRESSED_SENTINEL" Bundle.listD A s' s'.heap := by rw [hhp]; exact vx_Zq.moved hW0.alike (hN.kept hS.2.1)
  have h : ∀ w ∈ Bundle.ownAtoms0 own ic cls names, w.before args s' = true := vx_own hat' (vx_isRefq hU'.1) (vx_isRefq hN'.1) hU'.2.word hN'.2.word
  have hown' : s'.vm.findClass own = some m.cls := by rw [hvm]; exact hown
  have hins : (Cond.instantiable cls 6).before args s' = true := h _ (by simp [Bundle.ownAtoms0])
  obtain ⟨vm₁, cX, kX, hfX, hkX, -, -, X₁, st1⟩ := Y.newCold hexec (own := own) (C := cls) (index := ik) (n := 6) hown' hk' hins hini'
    (g := F0 m pc ls rest) rfl (by rw [hb]; exact d0) (Nat.le_refl _) (Nat.le_refl _)
  generalize hT1 : (T.setVm vm₁).pushCell { cls := cX, slots := kX.instanceTypes.map defaultValue, vm := .none } = T1 at X₁ st1
  have hcat : (Value.ref T.heap.size).category = 1 := rfl
  have hcellA : T1.heap[T.heap.size]? = some (freshCell cX kX) := by rw [← hT1]; exact State.heap_pushCell_size _ _
  have d3' : decode c.code (pc + 3) = .ok (.dup, 1) := by rw [hb]; exact d3
  obtain ⟨U, hsteps, hrun, hend, hW, hsame, ce, hce, hO⟩ := X₁.ctorThrow0 hexec htr (own := own) (cls := cls) (names := names) (ic := ic) hown' hcls hnames h (fun x hx => nomatch hx) hfX hkX hcellA (by rw [hhp, hT]; exact Nat.le_refl _)
    (g := { method := m, pc := pc + 4, locals := ls, stack := .ref T.heap.size :: .ref T.heap.size :: rest, locked := none }) rfl hsize rfl rfl (rest := rest) rfl
    (by rw [hb]; exact d4) (by rw [hb]; exact d7) hout hRframes (by simp only [List.map_cons, List.sum_cons, hcat]; omega) hlocks
  obtain ⟨f1, f2⟩ := vx_frame hsame
  rw [hhp] at f1 f2
  have hWs : s.WarmedH U.vm := State.WarmedH.trans hW0 hW
  have hcl : s.vm.findClass cls = some ce.cls := by
    have h9 := hO.cls
    rw [hvm] at h9
    exact h9
  have hall : s.sameButNew ({ U with vm := s.vm } : State) locs mc ms := by
    subst hA
    obtain ⟨e1, e2⟩ := hsame
    rw [State.setFrames_setFrames] at e1
    have h2 : (T.setVm s.vm).sameButNew ({ U with vm := s.vm } : State) [] (0 + 1) (0 + 6) := ⟨e1, e2⟩
    have h3 := X.same.trans h2
    rw [List.append_nil] at h3
    exact h3.mono hc hs
  refine ⟨U, ?_, .threw T.heap.size, hrun, hend, Or.inr ⟨T.heap.size, rfl, cls, ce, locs, hx U hWs.alike f1 (fun q hq => f2 q hq (fun z hz => nomatch hz)), hce, hO.vm, hcl, hWs, hall, hf⟩⟩
  refine st1 _ ?_
  show Steps p.tables e below (T1.setTop { method := m, pc := pc + 3, locals := ls, stack := .ref T.heap.size :: rest, locked := none }) _
  jvm_step X₁.here [X₁.here.top, hexec, d3', Value.category]
  exact hsteps
/-- 'throw new E("text")': new; dup; ldc; invokespecial; athrow -/
theorem vx_throwS {cc : ByteArray} {pc : Nat} (hexec : p.tables.exec = Jvm.exec) (hb : c.code = cc) (hl : l.stackTraces = false) {own cls text : String} {names : List String} {ik is ic mc ms sa : Nat} {A : Nat → Prop}
    (hown : s.vm.findClass own = some m.cls) (hcls : Bundle.fit cls = true) (hnames : ∀ n ∈ names, Bundle.fit n = true)
    (hk : (Cond.classLink own ik cls).before args s = true) (hini : (Cond.initialized cls).before args s = true) (hstr : vk_R own is text sa s) (hat : ∀ w ∈ vx_atS own ic cls names, w.before args s = true)
    (hgood : ∀ w ∈ Cond.classLink own ik cls :: Cond.initialized cls :: vx_atS own ic cls names, vx_ot w = true)
    (hU : vx_Zq Bundle.tN "UNASSIGNED_STACK" Bundle.steD A s s.heap) (hN : vx_Zq Bundle.tN "SUPPRESSED_SENTINEL" Bundle.listD A s s.heap) (hS : va_S A s.heap H locs) (hsize : ls.size = c.maxLocals)
    (d0 : decode cc pc = .ok (.new ik, 3)) (d3 : decode cc (pc + 3) = .ok (.dup, 1)) (d4 : decode cc (pc + 4) = .ok (.ldc is, 2)) (d6 : decode cc (pc + 6) = .ok (.invokespecial ic, 3)) (d9 : decode cc (pc + 9) = .ok (.athrow, 1))
    (hout : ∀ x ∈ c.exceptionTable.toList, covers x (pc + 9) = false)
    (hRframes : names.length + 3 < R.frames) (hRlocals : (rest.map fun v => v.category).sum + (13 * (names.length + 1) + 43) ≤ R.locals) (hRcells : cells + 1 ≤ R.cells) (hRslots : slots + 6 ≤ R.slots) (hlocks : meth.locks = false)
    (hx : ∀ t : State, s.vm.Alike t.vm → H.size ≤ t.heap.size → (∀ q : Nat, q < H.size → t.heap[q]? = H[q]?) → XC cls s t)
    (hf : ∀ z ∈ locs, free z.base) (hc : cells + 1 ≤ mc) (hs : slots + 6 ≤ ms) :
    W p l e R s m args below meth c H locs cells slots (vx_MQ below Qc XC args s mc ms free) (F0 m pc ls rest) := by
  intro T hT X
  have htr : e.platform.stackTraces = false := (show e.platform.stackTraces = l.stackTraces by rw [X.admits.platform]).trans hl
  have Y := vx_rebase X (R' := { frames := R.frames, locals := R.locals, cells := 1, slots := 6 }) (Nat.le_refl _) (Nat.le_refl _) hRcells hRslots
  obtain ⟨s', hA⟩ : ∃ z, z = (T.setVm s.vm).setFrames (.invoking m args :: below) := ⟨_, rfl⟩
  rw [← hA] at Y
  have hvm : s'.vm = s.vm := by rw [hA]; rfl
  have hhp : s'.heap = H := by rw [hA]; exact hT
  have hW0 : s.WarmedH s'.vm := by rw [hvm]; exact State.WarmedH.refl s
  have hat' : ∀ w ∈ vx_atS own ic cls names, w.before args s' = true := fun w hw => vx_ot_at hW0 hvm.symm (hgood w (List.mem_cons_of_mem _ (List.mem_cons_of_mem _ hw))) (hat w hw)
  have hk' : (Cond.classLink own ik cls).before args s' = true := vx_ot_at hW0 hvm.symm (hgood _ List.mem_cons_self) hk
  have hini' : (Cond.initialized cls).before args s' = true := vx_ot_at hW0 hvm.symm (hgood _ (List.mem_cons_of_mem _ List.mem_cons_self)) hini
  have hU' : vx_Zq Bundle.tN "UNASSIGNED_STACK" Bundle.steD A s' s'.heap := by rw [hhp]; exact vx_Zq.moved hW0.alike (hU.kept hS.2.1)
  have hN' : vx_Zq Bundle.tN "SUPPRESSED_SENTINEL" Bundle.listD A s' s'.heap := by rw [hhp]; exact vx_Zq.moved hW0.alike (hN.kept hS.2.1)
  have h : ∀ w ∈ Bundle.ownAtoms own ic cls names, w.before args s' = true := vx_own hat' (vx_isRefq hU'.1) (vx_isRefq hN'.1) hU'.2.word hN'.2.word
  have hown' : s'.vm.findClass own = some m.cls := by rw [hvm]; exact hown
  have hins : (Cond.instantiable cls 6).before args s' = true := h _ (by simp [Bundle.ownAtoms])
  obtain ⟨vm₁, cX, kX, hfX, hkX, -, -, X₁, st1⟩ := Y.newCold hexec (own := own) (C := cls) (index := ik) (n := 6) hown' hk' hins hini'
    (g := F0 m pc ls rest) rfl (by rw [hb]; exact d0) (Nat.le_refl _) (Nat.le_refl _)
  generalize hT1 : (T.setVm vm₁).pushCell { cls := cX, slots := kX.instanceTypes.map defaultValue, vm := .none } = T1 at X₁ st1
  have hcat : (Value.ref T.heap.size).category = 1 := rfl
  have hcellA : T1.heap[T.heap.size]? = some (freshCell cX kX) := by rw [← hT1]; exact State.heap_pushCell_size _ _
  have d3' : decode c.code (pc + 3) = .ok (.dup, 1) := by rw [hb]; exact d3
  have d4' : decode c.code (pc + 4) = .ok (.ldc is, 2) := by rw [hb]; exact d4
  have hstr' : vk_R own is text sa s' := vk_R.warm hW0 hstr
  obtain ⟨U, hsteps, hrun, hend, hW, hsame, ce, hce, hO⟩ := X₁.ctorThrowS hexec htr (own := own) (cls := cls) (names := names) (ic := ic) hown' hcls hnames h (fun x hx => nomatch hx) hfX hkX hcellA (by rw [hhp, hT]; exact Nat.le_refl _) (msg := .ref sa) rfl
    (g := { method := m, pc := pc + 6, locals := ls, stack := .ref sa :: .ref T.heap.size :: .ref T.heap.size :: rest, locked := none }) rfl hsize rfl rfl (rest := rest) rfl
    (by rw [hb]; exact d6) (by rw [hb]; exact d9) hout hRframes (by simp only [List.map_cons, List.sum_cons, hcat]; omega) hlocks
  obtain ⟨f1, f2⟩ := vx_frame hsame
  rw [hhp] at f1 f2
  have hWs : s.WarmedH U.vm := State.WarmedH.trans hW0 hW
  have hcl : s.vm.findClass cls = some ce.cls := by
    have h9 := hO.cls
    rw [hvm] at h9
    exact h9
  have hall : s.sameButNew ({ U with vm := s.vm } : State) locs mc ms := by
    subst hA
    obtain ⟨e1, e2⟩ := hsame
    rw [State.setFrames_setFrames] at e1
    have h2 : (T.setVm s.vm).sameButNew ({ U with vm := s.vm } : State) [] (0 + 1) (0 + 6) := ⟨e1, e2⟩
    have h3 := X.same.trans h2
    rw [List.append_nil] at h3
    exact h3.mono hc hs
  refine ⟨U, ?_, .threw T.heap.size, hrun, hend, Or.inr ⟨T.heap.size, rfl, cls, ce, locs, hx U hWs.alike f1 (fun q hq => f2 q hq (fun z hz => nomatch hz)), hce, hO.vm, hcl, hWs, hall, hf⟩⟩
  refine st1 _ ?_
  show Steps p.tables e below (T1.setTop { method := m, pc := pc + 3, locals := ls, stack := .ref T.heap.size :: rest, locked := none }) _
  jvm_step X₁.here [X₁.here.top, hexec, d3', Value.category]
  exact X₁.ldcString hexec (own := own) (text := text) (index := is) (a := sa) hown' hstr'.1 hstr'.2
    (g := { method := m, pc := pc + 4, locals := ls, stack := .ref T.heap.size :: .ref T.heap.size :: rest, locked := none }) rfl d4' _ hsteps
/-- 'throw new E("text")', the text by a wide index -/
theorem vx_throwSW {cc : ByteArray} {pc : Nat} (hexec : p.tables.exec = Jvm.exec) (hb : c.code = cc) (hl : l.stackTraces = false) {own cls text : String} {names : List String} {ik is ic mc ms sa : Nat} {A : Nat → Prop}
    (hown : s.vm.findClass own = some m.cls) (hcls : Bundle.fit cls = true) (hnames : ∀ n ∈ names, Bundle.fit n = true)
    (hk : (Cond.classLink own ik cls).before args s = true) (hini : (Cond.initialized cls).before args s = true) (hstr : vk_R own is text sa s) (hat : ∀ w ∈ vx_atS own ic cls names, w.before args s = true)
    (hgood : ∀ w ∈ Cond.classLink own ik cls :: Cond.initialized cls :: vx_atS own ic cls names, vx_ot w = true)
    (hU : vx_Zq Bundle.tN "UNASSIGNED_STACK" Bundle.steD A s s.heap) (hN : vx_Zq Bundle.tN "SUPPRESSED_SENTINEL" Bundle.listD A s s.heap) (hS : va_S A s.heap H locs) (hsize : ls.size = c.maxLocals)
    (d0 : decode cc pc = .ok (.new ik, 3)) (d3 : decode cc (pc + 3) = .ok (.dup, 1)) (d4 : decode cc (pc + 4) = .ok (.ldc_w is, 3)) (d7 : decode cc (pc + 7) = .ok (.invokespecial ic, 3)) (d10 : decode cc (pc + 10) = .ok (.athrow, 1))
    (hout : ∀ x ∈ c.exceptionTable.toList, covers x (pc + 10) = false)
    (hRframes : names.length + 3 < R.frames) (hRlocals : (rest.map fun v => v.category).sum + (13 * (names.length + 1) + 43) ≤ R.locals) (hRcells : cells + 1 ≤ R.cells) (hRslots : slots + 6 ≤ R.slots) (hlocks : meth.locks = false)
    (hx : ∀ t : State, s.vm.Alike t.vm → H.size ≤ t.heap.size → (∀ q : Nat, q < H.size → t.heap[q]? = H[q]?) → XC cls s t)
    (hf : ∀ z ∈ locs, free z.base) (hc : cells + 1 ≤ mc) (hs : slots + 6 ≤ ms) :
    W p l e R s m args below meth c H locs cells slots (vx_MQ below Qc XC args s mc ms free) (F0 m pc ls rest) := by
  intro T hT X
  have htr : e.platform.stackTraces = false := (show e.platform.stackTraces = l.stackTraces by rw [X.admits.platform]).trans hl
  have Y := vx_rebase X (R' := { frames := R.frames, locals := R.locals, cells := 1, slots := 6 }) (Nat.le_refl _) (Nat.le_refl _) hRcells hRslots
  obtain ⟨s', hA⟩ : ∃ z, z = (T.setVm s.vm).setFrames (.invoking m args :: below) := ⟨_, rfl⟩
  rw [← hA] at Y
  have hvm : s'.vm = s.vm := by rw [hA]; rfl
  have hhp : s'.heap = H := by rw [hA]; exact hT
  have hW0 : s.WarmedH s'.vm := by rw [hvm]; exact State.WarmedH.refl s
  have hat' : ∀ w ∈ vx_atS own ic cls names, w.before args s' = true := fun w hw => vx_ot_at hW0 hvm.symm (hgood w (List.mem_cons_of_mem _ (List.mem_cons_of_mem _ hw))) (hat w hw)
  have hk' : (Cond.classLink own ik cls).before args s' = true := vx_ot_at hW0 hvm.symm (hgood _ List.mem_cons_self) hk
  have hini' : (Cond.initialized cls).before args s' = true := vx_ot_at hW0 hvm.symm (hgood _ (List.mem_cons_of_mem _ List.mem_cons_self)) hini
  have hU' : vx_Zq Bundle.tN "UNASSIGNED_STACK" Bundle.steD A s' s'.heap := by rw [hhp]; exact vx_Zq.moved hW0.alike (hU.kept hS.2.1)
  have hN' : vx_Zq Bundle.tN "SUPPRESSED_SENTINEL" Bundle.listD A s' s'.heap := by rw [hhp]; exact vx_Zq.moved hW0.alike (hN.kept hS.2.1)
  have h : ∀ w ∈ Bundle.ownAtoms own ic cls names, w.before args s' = true := vx_own hat' (vx_isRefq hU'.1) (vx_isRefq hN'.1) hU'.2.word hN'.2.word
  have hown' : s'.vm.findClass own = some m.cls := by rw [hvm]; exact hown
  have hins : (Cond.instantiable cls 6).before args s' = true := h _ (by simp [Bundle.ownAtoms])
  obtain ⟨vm₁, cX, kX, hfX, hkX, -, -, X₁, st1⟩ := Y.newCold hexec (own := own) (C := cls) (index := ik) (n := 6) hown' hk' hins hini'
    (g := F0 m pc ls rest) rfl (by rw [hb]; exact d0) (Nat.le_refl _) (Nat.le_refl _)
  generalize hT1 : (T.setVm vm₁).pushCell { cls := cX, slots := kX.instanceTypes.map defaultValue, vm := .none } = T1 at X₁ st1
  have hcat : (Value.ref T.heap.size).category = 1 := rfl
  have hcellA : T1.heap[T.heap.size]? = some (freshCell cX kX) := by rw [← hT1]; exact State.heap_pushCell_size _ _
  have d3' : decode c.code (pc + 3) = .ok (.dup, 1) := by rw [hb]; exact d3
  have d4' : decode c.code (pc + 4) = .ok (.ldc_w is, 3) := by rw [hb]; exact d4
  have hstr' : vk_R own is text sa s' := vk_R.warm hW0 hstr
  obtain ⟨U, hsteps, hrun, hend, hW, hsame, ce, hce, hO⟩ := X₁.ctorThrowS hexec htr (own := own) (cls := cls) (names := names) (ic := ic) hown' hcls hnames h (fun x hx => nomatch hx) hfX hkX hcellA (by rw [hhp, hT]; exact Nat.le_refl _) (msg := .ref sa) rfl
    (g := { method := m, pc := pc + 7, locals := ls, stack := .ref sa :: .ref T.heap.size :: .ref T.heap.size :: rest, locked := none }) rfl hsize rfl rfl (rest := rest) rfl
    (by rw [hb]; exact d7) (by rw [hb]; exact d10) hout hRframes (by simp only [List.map_cons, List.sum_cons, hcat]; omega) hlocks
  obtain ⟨f1, f2⟩ := vx_frame hsame
  rw [hhp] at f1 f2
  have hWs : s.WarmedH U.vm := State.WarmedH.trans hW0 hW
  have hcl : s.vm.findClass cls = some ce.cls := by
    have h9 := hO.cls
    rw [hvm] at h9
    exact h9
  have hall : s.sameButNew ({ U with vm := s.vm } : State) locs mc ms := by
    subst hA
    obtain ⟨e1, e2⟩ := hsame
    rw [State.setFrames_setFrames] at e1
    have h2 : (T.setVm s.vm).sameButNew ({ U with vm := s.vm } : State) [] (0 + 1) (0 + 6) := ⟨e1, e2⟩
    have h3 := X.same.trans h2
    rw [List.append_nil] at h3
    exact h3.mono hc hs
  refine ⟨U, ?_, .threw T.heap.size, hrun, hend, Or.inr ⟨T.heap.size, rfl, cls, ce, locs, hx U hWs.alike f1 (fun q hq => f2 q hq (fun z hz => nomatch hz)), hce, hO.vm, hcl, hWs, hall, hf⟩⟩
  refine st1 _ ?_
  show Steps p.tables e below (T1.setTop { method := m, pc := pc + 3, locals := ls, stack := .ref T.heap.size :: rest, locked := none }) _
  jvm_step X₁.here [X₁.here.top, hexec, d3', Value.category]
  exact X₁.ldcStringW hexec (own := own) (text := text) (index := is) (a := sa) hown' hstr'.1 hstr'.2
    (g := { method := m, pc := pc + 4, locals := ls, stack := .ref T.heap.size :: .ref T.heap.size :: rest, locked := none }) rfl d4' _ hsteps
end Ends
section Bodies
variable {l : Launch}
theorem vx_ofW {y : MethodName} {ws ws' : List Cond} {rm : Room} {Pc : Array Value → State → Prop} {Qc : Array Value → State → Outcome → State → Prop} {XC : String → State → State → Prop} {mc ms : Nat} {free : Addr → Prop} {cc : ByteArray} {maxL : Nat} {ret : Option FieldType}
    (hy : plainName y.cls = true) (hw : ws = Cond.code y cc maxL ret :: ws')
    (body : ∀ p e s m args below meth c s₁, BodyLoose p l y (headSpec ws rm) cc maxL ret e s m args below meth c s₁ → c.maxLocals = maxL → (∀ x ∈ c.exceptionTable.toList, False) → Pc args s →
      W p l e (headSpec ws rm).room s m args below meth c s.heap [] 0 0 (vx_MQ below Qc XC args s mc ms free) (entryFrame m args maxL)) : vx_Met l y ws rm Pc Qc XC mc ms free := by
  refine MetFree.of_bodyS (code := cc) (maxLocals := maxL) (ret := ret) hy ?_ ?_
  · intro args s m h hn
    obtain ⟨meth, c, h1, h2, h3, h4, h5, h6, -, -⟩ := Cond.code_spec hn (atoms_spec (ws := ws) h _ (by rw [hw]; exact List.mem_cons_self))
    exact ⟨meth, c, h1, h2, h3, h4, h5, h6⟩
  · intro p e s m args below meth c s₁ B hml hP _
    have hh0 : s₁.heap = s.heap := by rw [B.state]; rfl
    have ht : ∀ x ∈ c.exceptionTable.toList, False := by
      obtain ⟨meth9, c9, h1, h2, -, -, -, -, h7, -⟩ := Cond.code_spec B.named (atoms_spec (ws := ws) B.pre _ (by rw [hw]; exact List.mem_cons_self))
      cases Option.some.inj (h1.symm.trans B.method)
      cases Option.some.inj (h2.symm.trans (Stand.of_body B).code)
      intro x hx
      rw [Array.isEmpty_iff.mp h7] at hx
      cases hx
    obtain ⟨t, a1, o, b1, b2, b3⟩ := body p e s m args below meth c s₁ B hml ht hP s₁ hh0 (Stand.of_body B)
    exact ⟨t, o, a1, b1, b2, b3⟩
/-- the table of a body with handlers -/
theorem vx_table {p : Program} {x y : MethodName} {S : Spec} {cc bytes : ByteArray} {maxL maxL' : Nat} {ret ret' : Option FieldType} {e : Env} {s s₁ : State} {m : MethodId} {args : Array Value} {below : List Frame} {meth : Method} {c : Code} {hh : List (Nat × Nat × Nat × Nat)}
    (B : BodyLoose p l y S cc maxL ret e s m args below meth c s₁) (h : (Cond.codeWith y bytes maxL' ret' hh).before args s = true) : c.exceptionTable.toList = tableOf hh := by
  obtain ⟨m9, meth9, c9, hn9, h1, h2, -, -, h6, -⟩ := Cond.codeWith_spec h
  cases Option.some.inj (hn9.symm.trans B.named)
  cases Option.some.inj (h1.symm.trans B.method)
  cases Option.some.inj (h2.symm.trans (Stand.of_body B).code)
  rw [← h6, table_eq]
end Bodies
end VXA
/-! ===== END ===== -/
/-! ===== BEGIN a static call of a method with an exception table ===== -/
section VXS
variable {p : Program} {l : Launch} {e : Env} {R : Room} {s : State} {m : MethodId} {args : Array Value} {below : List Frame} {meth : Method} {c : Code} {T : State} {H : Heap} {locs : List Loc} {cells slots : Nat}
abbrev vx_CSW (R : Room) (s : State) (args : Array Value) (own : String) (index : Nat) (y : MethodName) (bytes : ByteArray) (maxL : Nat) (ret : Option FieldType) (hh : List (Nat × Nat × Nat × Nat)) (ws : List Cond) (rm : Room) (mc ms n : Nat) : Prop :=
  (rm.cells = mc ∧ rm.slots = ms ∧ rm.frames + 1 ≤ R.frames ∧ 8 + (maxL + 11) + rm.locals ≤ R.locals ∧ (∀ w ∈ ws, ∀ (a' : Array Value) (U : State), s.WarmedH U.vm → w.before a' U = true) ∧ Cond.codeWith y bytes maxL ret hh ∈ ws) ∧
  (Cond.codeWith y bytes maxL ret hh).before args s = true ∧ (Cond.initialized y.cls).before args s = true ∧ (y.cls ≠ "java/lang/invoke/MethodHandle" ∧ y.cls ≠ "java/lang/invoke/VarHandle") ∧
  (∀ sig, parseMethodDescriptor y.desc = some sig → n = sig.parameters.length) ∧ (Cond.methodLink own index y).before args s = true ∧ (Cond.static y).before args s = true
theorem vx_cwSW {own : String} {index maxL mc ms : Nat} {y : MethodName} {bytes : ByteArray} {ret : Option FieldType} {hh : List (Nat × Nat × Nat × Nat)} {Ts ws ws' : List Cond} {rm : Room} (n : Nat) (ht : ∀ w ∈ Ts, w.before args s = true) (hT : GoodIn Ts (va_wsS own index y ws)) (hw : ws = Cond.codeWith y bytes maxL ret hh :: ws') (hrc : rm.cells = mc) (hrs : rm.slots = ms)
    (hd : y.cls ≠ "java/lang/invoke/MethodHandle" ∧ y.cls ≠ "java/lang/invoke/VarHandle" ∧ (parseMethodDescriptor y.desc).map (fun d => d.parameters.length) = some n) (hR : rm.frames + 1 ≤ R.frames ∧ 8 + (maxL + 11) + rm.locals ≤ R.locals) :
    vx_CSW R s args own index y bytes maxL ret hh ws rm mc ms n := by
  have ok : ∀ w ∈ va_wsS own index y ws, w.before args s = true := fun w h => ht w (hT w h).1
  have hG : GoodIn Ts ws := fun w h => hT w (by unfold va_wsS; exact List.mem_append_right _ h)
  have hc : Cond.codeWith y bytes maxL ret hh ∈ ws := by rw [hw]; exact List.mem_cons_self
  refine ⟨⟨hrc, hrs, hR.1, hR.2, pay_in ht hG, hc⟩, ht _ (hG _ hc).1, ok _ (by simp [va_wsS]), ⟨hd.1, hd.2.1⟩, fun sig h => ?_, ok _ (by simp [va_wsS]), ok _ (by simp [va_wsS])⟩
  have h2 := hd.2.2
  rw [h] at h2
  exact (Option.some.inj h2).symm
theorem vx_callSW (X : Stand p l e R s m args below meth c T locs cells slots) (hexec : p.tables.exec = Jvm.exec) {own : String} {index : Nat} {y : MethodName} {bytes : ByteArray} {maxL : Nat} {ret : Option FieldType} {hh : List (Nat × Nat × Nat × Nat)}
    (hown : s.vm.findClass own = some m.cls) (hlink : (Cond.methodLink own index y).before args s = true) (hstat : (Cond.static y).before args s = true) (hinit : (Cond.initialized y.cls).before args s = true)
    (hcode : (Cond.codeWith y bytes maxL ret hh).before args s = true) (hy : y.cls ≠ "java/lang/invoke/MethodHandle" ∧ y.cls ≠ "java/lang/invoke/VarHandle")
    {W9 : Nat} {Pre : Pt → Array Value → Prop} {Post : Pt → Array Value → Option Value → Pt → Prop} (hK : Back l R p e below s args y 3 W9 Pre Post)
    {g : JFrame} (hg : g.method = m) (hsize : g.locals.size = c.maxLocals) {argsL rest : List Value} (hlen : ∀ sig, parseMethodDescriptor y.desc = some sig → argsL.length = sig.parameters.length)
    (hstack : g.stack = argsL.reverse ++ rest) (hW : 2 * g.monitorRoom + (rest.map fun v => v.category).sum ≤ W9) (hdg : decode c.code g.pc = .ok (.invokestatic index, 3))
    (hpre : ∀ vm₁, s.WarmedH vm₁ → Pre ⟨T.setVm vm₁, locs, cells, slots⟩ argsL.toArray) :
    ∃ (v : Option Value) (vm₁ : Vm) (B : Pt), s.WarmedH vm₁ ∧ Stand p l e R s m args below meth c B.U B.locs B.cells B.slots ∧ Post ⟨T.setVm vm₁, locs, cells, slots⟩ argsL.toArray v B ∧
      ∀ target, Steps p.tables e below (B.U.setTop { g with pc := g.pc + 3, stack := v.toList ++ rest }) target → Steps p.tables e below (T.setTop g) target := by
  obtain ⟨mk, methM, cM, hnamed, hmethM, -, -, -, -, -, -, hsigM⟩ := Cond.codeWith_spec hcode
  have hstatic : methM.isStatic = true := Cond.static_spec hnamed hmethM hstat
  obtain ⟨kP, hkP, -⟩ := className_of_methodNamed hnamed
  have hinitP : kP.init = .initialized := Cond.initialized_spec (findClass_of_methodNamed hnamed) hkP hinit
  obtain ⟨vm₁, X₁, hstep₁⟩ := X.invokestatic hexec hown hlink hnamed hmethM hstatic hkP hinitP hy (g := g) hg (argsL := argsL) (rest := rest) (hlen _ hsigM) hstack hdg
  obtain ⟨v, B, X', hpost, hsteps⟩ := hK m meth c ⟨T.setVm vm₁, locs, cells, slots⟩ { g with stack := rest } (.invokestatic index) mk argsL.toArray X₁ hg hsize hdg hW (X₁.named hnamed) (hpre vm₁ X₁.warmed)
  exact ⟨v, vm₁, B, X₁.warmed, X', hpost, fun target h => hstep₁ _ fun acts => by rw [doInvoke_state]; exact hsteps.trans h⟩
theorem vx_runSW {y : MethodName} {bytes cc : ByteArray} {maxL nL mc ms n index : Nat} {ret : Option FieldType} {hh : List (Nat × Nat × Nat × Nat)} {ws : List Cond} {rm : Room} {Pc : Array Value → State → Prop} {Qc : Array Value → State → Outcome → State → Prop} {free : Addr → Prop} {Ts : List Cond} {own : String} {As rest : List Value} {g : JFrame}
    (S : CallFix p m c cc nL s args Ts own) (hM : Met l y ws rm Pc Qc mc ms free) (cw : vx_CSW R s args own index y bytes maxL ret hh ws rm mc ms n) (hp : PreS s H Pc As)
    (hg : g.method = m) (hn : As.length = n) (hsize : g.locals.size = nL) (hstack : g.stack = As.reverse ++ rest) (hW : 2 * g.monitorRoom + (rest.map fun v => v.category).sum ≤ 8) (hdg : decode cc g.pc = .ok (.invokestatic index, 3)) (hf : cells + mc ≤ R.cells ∧ slots + ms ≤ R.slots) :
    va_Run p l e R s m args below meth c H locs cells slots mc ms g rest (Qc As.toArray) (free) := by
  obtain ⟨⟨hrc, hrs, hfr, hlo, hws, hcw⟩, hcode, hini, hy, hlen, hl, hstt⟩ := cw
  have hK : Back l R p e below s args y 3 8 (PreOf R mc ms Pc) (PostOf Qc mc ms free) := va_backW (hh := hh) (bytes := bytes) (maxL := maxL) (ret := ret) hM hp.1 hrc hrs hfr hlo hws hcw (fun a' U hW => word_at hW (Or.inl (by first | rfl | simp [Cond.onTables, Cond.keeps, Cond.steady])) hini)
  obtain ⟨hx, hb, hml, ho, -⟩ := S
  intro T hT X
  obtain ⟨v, vm₁, ⟨U', l2, c2, s2⟩, hW₁, X', ⟨g', mk, t, L, e1, e2, hq, h1, hL, h2, h3⟩, st⟩ := vx_callSW X hx (hh := hh) (bytes := bytes) (maxL := maxL) (ret := ret) ho hl hstt hini hcode hy hK hg (hsize.trans hml.symm) (argsL := As) (rest := rest) (fun sig h => hn.trans (hlen sig h)) hstack hW (by rw [hb]; exact hdg)
    (fun vm₁ hW₁ => ⟨hf.1, hf.2, hp.2 (T.setVm vm₁) hT hW₁⟩)
  dsimp only [Pt.U, Pt.locs, Pt.cells, Pt.slots] at X' e1 e2 h1 h2 h3 st
  subst h1; subst h2; subst h3
  exact ⟨v, (T.setVm vm₁).calling g' mk As.toArray, t, U', L, hT, X', hL, e1, e2, hq, st⟩
/-- not caught here, past rows that name other classes: it goes on to the caller -/
theorem vx_outP {p : Program} {l : Launch} {e : Env} {R : Room} {s : State} {m : MethodId} {args : Array Value} {below : List Frame} {meth : Method} {c : Code} {H : Heap} {locs : List Loc} {cells slots : Nat} {free : Addr → Prop} {ls : Array Slot} {rest : List Value} {Qc : Array Value → State → Outcome → State → Prop} {XC : String → State → State → Prop}
    {pc : Nat} {own E : String} {ce : Cell} {q : Addr} {mc ms : Nat} (hown : s.vm.findClass own = some m.cls) (hlocks : meth.locks = false)
    (hpass : ∀ z ∈ c.exceptionTable.toList, covers z pc = false ∨ (z.catchType ≠ 0 ∧ ∃ nm : String, (Cond.classLink own z.catchType nm).before args s = true ∧ va_Nc E nm s)) (hcell : H[q]? = some ce) (hv : ce.vm = .none) (hcl : s.vm.findClass E = some ce.cls)
    (hx : ∀ t : State, t.heap = H → s.vm.Alike t.vm → XC E s t) (hf : ∀ z ∈ locs, free z.base) (hc : cells ≤ mc) (hs : slots ≤ ms) :
    vx_W p l e R s m args below meth c H locs cells slots (vx_MQ below Qc XC args s mc ms free) (F0 m pc ls rest) q := by
  intro T hT X
  have hpl : e.platform.magicAccessors = ({} : Platform).magicAccessors := by rw [X.admits.platform]
  obtain ⟨vm', hW', X', st⟩ := X.outThrough hlocks q (g := F0 m pc ls rest) rfl rfl rfl (cell := ce) (by rw [hT]; exact hcell) (by rw [hv]; rfl)
    (by obtain ⟨k9, h9, -⟩ := Vm.findClass_spec hcl; exact ⟨k9, h9⟩) (fun z hz => by
      rcases hpass z hz with h | ⟨hz0, nm, hl1, hn1⟩
      · exact Or.inl h
      · obtain ⟨c6, hc6, hcl6⟩ := Cond.classLink_spec hown hl1 e.platform hpl
        obtain ⟨a8, b8, h1, h2, h3⟩ := hn1
        cases Option.some.inj (h1.symm.trans hcl)
        cases Option.some.inj (h2.symm.trans hc6)
        exact Or.inr ⟨hz0, _, hcl6, h3⟩)
  obtain ⟨g₀, hfr⟩ := X'.frames_eq
  have hcell9 : ((T.setVm vm').setFrames (.throwing q :: below)).heap[q]? = some ce := by
    show T.heap[q]? = some ce
    rw [hT]; exact hcell
  have hend : Ended ((T.setVm vm').setFrames (.throwing q :: below)) below (.threw q) := State.frames_setFrames _ (State.cur_lt_of_frames hfr)
  refine ⟨(T.setVm vm').setFrames (.throwing q :: below), ?_, .threw q, X'.here.running, hend, Or.inr ⟨q, rfl, E, ce, locs, hx _ hT (X'.ends _).1.alike, hcell9, hv, hcl, (X'.ends _).1, (X'.ends _).2.mono hc hs, hf⟩⟩
  rw [X.pushThrowing_eq]
  exact st
/-- a thing of a world lies in the heap -/
theorem vx_lt {D : va_G} {cl : List vw_C} {ws : va_W} {H1 : Heap} (h : va_P D cl ws H1) {k : Nat} {q : Nat × va_E} (hk : ws[k]? = some q) : q.1 < H1.size := (h k q hk).lt
end VXS
/-! ===== END ===== -/
/-! ===== BEGIN methods with a table of their own: called by a name, returning or throwing ===== -/
section VXH
/-! vx_backW, vx_callVX, vx_callSX, vx_callVW, vx_runVW, vx_runVX, vx_runSX, vx_ofWH follow the same proofs as their sisters above (Free/Laws.lean, Shelf42/LK1.lean); vx_outP calls Shelf42/NT130.lean (outThrough). -/
section
variable {l : Launch} {R : Room} {p : Program} {e : Env} {below : List Frame} {s : State} {sargs : Array Value} {y : MethodName} {len W9 : Nat}
theorem vx_backW {ws : List Cond} {rm : Room} {Pc : Array Value → State → Prop} {Qc : Array Value → State → Outcome → State → Prop} {XC : String → State → State → Prop} {mc ms : Nat} {free : Addr → Prop} {bytes : ByteArray} {maxL : Nat} {ret : Option FieldType} {hh : List (Nat × Nat × Nat × Nat)}
    (hM : vx_Met l y ws rm Pc Qc XC mc ms free) (hblind : FrameBlind Pc) (hrc : rm.cells = mc) (hrs : rm.slots = ms)
    (hframes : rm.frames + 1 ≤ R.frames) (hlocals : W9 + (maxL + 11) + rm.locals ≤ R.locals)
    (hws : ∀ w ∈ ws, ∀ a' U, s.WarmedH U.vm → w.before a' U = true) (hcode : Cond.codeWith y bytes maxL ret hh ∈ ws) (hinit : ∀ a' U, s.WarmedH U.vm → (Cond.initialized y.cls).before a' U = true) :
    vx_Back l R p e below s sargs y len W9 (PreOf R mc ms Pc) (PostOf Qc mc ms free) (vx_Post XC mc ms free) := by
  intro m meth c A g ig mk a X hg hsize hdg hW hn hp
  have h1 : (headSpec ws rm).pre.before a A.U = true := atoms_intro fun w hw => hws w hw _ _ X.warmed
  have h2 : (Cond.codeWith y bytes maxL ret hh).before a A.U = true := hws _ hcode _ _ X.warmed
  have h3 : (Cond.initialized y.cls).before a A.U = true := hinit _ _ X.warmed
  have h4 : A.cells + (headSpec ws rm).room.cells ≤ R.cells := by rw [show (headSpec ws rm).room.cells = mc from hrc]; exact hp.1
  have h5 : A.slots + (headSpec ws rm).room.slots ≤ R.slots := by rw [show (headSpec ws rm).room.slots = ms from hrs]; exact hp.2.1
  have hPc : Pc a (A.U.calling g mk a) := hblind _ _ _ _ hp.2.2
  obtain ⟨U, Ls, c0, s0⟩ := A
  dsimp only [Pt.U, Pt.locs, Pt.cells, Pt.slots] at h1 h2 h3 h4 h5 X hn hPc ⊢
  obtain ⟨m9, methY, cY, hn9, hmY, hcY, -, hlY, -⟩ := Cond.codeWith_spec h2
  cases Option.some.inj (hn9.symm.trans hn)
  obtain ⟨kY, hkY, -⟩ := className_of_methodNamed hn
  have hinitY : kY.init = .initialized := Cond.initialized_spec (findClass_of_methodNamed hn) hkY h3
  have h : At U g.method c below := by rw [hg]; exact X.here
  have hlocals9 : W9 + (maxL + 11) + (headSpec ws rm).room.locals ≤ R.locals := hlocals
  have happ : (headSpec ws rm).appliesLoose y e.platform (U.calling g mk a) = true :=
    Spec.appliesLoose_calling (g := g) h hdg hn hkY hinitY
      (X.room_calling (g := g) (R' := (headSpec ws rm).room) hsize hmY hcY hframes (by rw [hlY]; omega) h4 h5) h1
  obtain ⟨mid, hmid⟩ := h.above
  have hfr : (U.setTop g).frames = (.java g :: mid) ++ below := by rw [State.frames_setTop' g h.top, hmid]; rfl
  obtain ⟨o, s₂, hsteps, -, hend, hq⟩ := Steps.callFree hM p X.admits X.cas X.clock (acts := []) hfr happ hPc trivial
  have hq' : vx_Q Qc XC mc ms free a (U.calling g mk a) o s₂ := hq
  rw [State.frames_setTop' g h.top] at hend
  obtain ⟨g₀, hg0⟩ := Option.isSome_iff_exists.mp h.top
  obtain ⟨r, hr⟩ := State.topJava?_eq_some.mp hg0
  have hr' : (({ U with heap := s₂.heap, slotsUsed := s₂.slotsUsed } : State).setVm s₂.vm).frames = .java g₀ :: r := hr
  rcases hq' with ⟨hqc, L, hfe, hL⟩ | ⟨q, rfl, E, ce, L, hx, hce, hcv, hcl, hW₂, hsm, hL⟩
  · obtain ⟨⟨v, rfl⟩, hW₂, e2, q2, q3, q4, q5, q6⟩ := id hfe
    have e3 : s₂ = ({ (U.calling g mk a).setFrames s₂.frames with heap := s₂.heap, slotsUsed := s₂.slotsUsed } : State).setVm s₂.vm := by
      have : s₂ = ({ s₂ with vm := (U.calling g mk a).vm } : State).setVm s₂.vm := rfl
      rw [e2] at this
      exact this
    obtain ⟨c₂, i₂, len₂, hc₂, hd₂, hf₂⟩ := hend
    have hW' : U.WarmedH s₂.vm := hW₂
    have hcc : c₂ = c := by
      have h1 : s₂.code? g.method = U.code? g.method := by
        rw [State.code?_eq, State.code?_eq, hW'.alike.method?]
      exact Option.some.inj (hc₂.symm.trans (h1.trans h.code))
    subst hcc
    have hlen : len₂ = len := by rw [hdg] at hd₂; cases hd₂; rfl
    subst hlen
    have hs₂ : s₂ = (({ U with heap := s₂.heap, slotsUsed := s₂.slotsUsed } : State).setVm s₂.vm).setTop { g with pc := g.pc + len₂, stack := v.toList ++ g.stack } := by
      refine e3.trans ?_
      rw [hf₂, State.calling_eq h.top, State.setFrames_setFrames, State.setTop_of_frames _ hr', hr]
      rfl
    have hsame : U.sameButNew ({ U with heap := s₂.heap, slotsUsed := s₂.slotsUsed } : State) L mc ms := by
      refine ⟨?_, q2, q3, q4, q5, q6⟩
      obtain ⟨t, ht, -⟩ := State.frames_cons hr
      show ({ U with heap := s₂.heap, slotsUsed := s₂.slotsUsed } : State) = { U.setFrames U.frames with heap := s₂.heap, slotsUsed := s₂.slotsUsed }
      rw [State.setFrames_self ht]
    subst hg
    refine Or.inl ⟨v, ⟨(({ U with heap := s₂.heap, slotsUsed := s₂.slotsUsed } : State).setVm s₂.vm), Ls ++ L, c0 + mc, s0 + ms⟩,
      ⟨X.admits, X.cas, X.clock, X.frames, X.room, X.hears, X.method, X.code, (X.here.setHeapUsed s₂.heap s₂.slotsUsed).setVm hW'.alike, X.tail, State.WarmedH.trans X.warmed hW', X.limits, X.bytes, X.same.trans (hsame.setVm s.vm)⟩,
      ⟨g, mk, s₂, L, rfl, rfl, hqc, rfl, hL, rfl, rfl⟩, ?_⟩
    show Steps p.tables e below _ ((({ U with heap := s₂.heap, slotsUsed := s₂.slotsUsed } : State).setVm s₂.vm).setTop { g with pc := g.pc + len₂, stack := v.toList ++ g.stack })
    rw [← hs₂]
    exact hsteps
  · obtain ⟨e2, q2, q3, q4, q5, q6⟩ := id hsm
    have e3 : s₂ = ({ (U.calling g mk a).setFrames s₂.frames with heap := s₂.heap, slotsUsed := s₂.slotsUsed } : State).setVm s₂.vm := by
      have : s₂ = ({ s₂ with vm := (U.calling g mk a).vm } : State).setVm s₂.vm := rfl
      rw [e2] at this
      exact this
    have hf₂ : s₂.frames = .throwing q :: .java g :: U.frames.tail := hend
    have hW' : U.WarmedH s₂.vm := hW₂
    have hs₂ : s₂ = ((({ U with heap := s₂.heap, slotsUsed := s₂.slotsUsed } : State).setVm s₂.vm).setTop g).pushFrame (.throwing q) := by
      refine e3.trans ?_
      rw [hf₂, State.calling_eq h.top, State.setFrames_setFrames, State.pushFrame, State.frames_setTop _ hr', State.setTop_of_frames _ hr', State.setFrames_setFrames, hr]
      rfl
    have hsame : U.sameButNew ({ U with heap := s₂.heap, slotsUsed := s₂.slotsUsed } : State) L mc ms := by
      refine ⟨?_, q2, q3, q4, q5, q6⟩
      obtain ⟨t, ht, -⟩ := State.frames_cons hr
      show ({ U with heap := s₂.heap, slotsUsed := s₂.slotsUsed } : State) = { U.setFrames U.frames with heap := s₂.heap, slotsUsed := s₂.slotsUsed }
      rw [State.setFrames_self ht]
    subst hg
    refine Or.inr ⟨q, ⟨(({ U with heap := s₂.heap, slotsUsed := s₂.slotsUsed } : State).setVm s₂.vm), Ls ++ L, c0 + mc, s0 + ms⟩,
      ⟨X.admits, X.cas, X.clock, X.frames, X.room, X.hears, X.method, X.code, (X.here.setHeapUsed s₂.heap s₂.slotsUsed).setVm hW'.alike, X.tail, State.WarmedH.trans X.warmed hW', X.limits, X.bytes, X.same.trans (hsame.setVm s.vm)⟩,
      ⟨g, mk, s₂, L, E, ce, rfl, rfl, hx, hce, hcv, hcl, rfl, hL, rfl, rfl⟩, ?_⟩
    show Steps p.tables e below _ (((({ U with heap := s₂.heap, slotsUsed := s₂.slotsUsed } : State).setVm s₂.vm).setTop g).pushFrame (.throwing q))
    rw [← hs₂]
    exact hsteps
end
variable {p : Program} {l : Launch} {e : Env} {R : Room} {s : State} {m : MethodId} {args : Array Value} {below : List Frame} {meth : Method} {c : Code} {T : State} {H : Heap} {locs : List Loc} {cells slots : Nat}
theorem vx_callVX (X : Stand p l e R s m args below meth c T locs cells slots) (hexec : p.tables.exec = Jvm.exec) {own C : String} {index : Nat} {y : MethodName} {bytes : ByteArray} {maxL : Nat} {ret : Option FieldType} {hh : List (Nat × Nat × Nat × Nat)}
    (hown : s.vm.findClass own = some m.cls) (hlink : (Cond.methodLink own index y).before args s = true) (hinst : (Cond.instanceMethod y).before args s = true) (hsel : (Cond.selects C y y).before args s = true)
    (hcode : (Cond.codeWith y bytes maxL ret hh).before args s = true) (hy : y.cls ≠ "java/lang/invoke/MethodHandle" ∧ y.cls ≠ "java/lang/invoke/VarHandle")
    {W9 : Nat} {Pre : Pt → Array Value → Prop} {Post : Pt → Array Value → Option Value → Pt → Prop} {PostX : Pt → Array Value → Addr → Pt → Prop} (hK : vx_Back l R p e below s args y 3 W9 Pre Post PostX)
    {b : Addr} {cellB : Cell} (hcell : T.heap[b]? = some cellB) (hobj : cellB.vm.isStatics = false) (hcls : s.vm.findClass C = some cellB.cls)
    {g : JFrame} (hg : g.method = m) (hsize : g.locals.size = c.maxLocals) {argsL rest : List Value} (hlen : ∀ sig, parseMethodDescriptor y.desc = some sig → argsL.length = sig.parameters.length)
    (hstack : g.stack = argsL.reverse ++ .ref b :: rest) (hW : 2 * g.monitorRoom + (rest.map fun v => v.category).sum ≤ W9) (hdg : decode c.code g.pc = .ok (.invokevirtual index, 3))
    (hpre : ∀ vm₁, s.WarmedH vm₁ → Pre ⟨T.setVm vm₁, locs, cells, slots⟩ (Value.ref b :: argsL).toArray) :
    (∃ (v : Option Value) (vm₁ : Vm) (B : Pt), s.WarmedH vm₁ ∧ Stand p l e R s m args below meth c B.U B.locs B.cells B.slots ∧ Post ⟨T.setVm vm₁, locs, cells, slots⟩ (Value.ref b :: argsL).toArray v B ∧
      ∀ target, Steps p.tables e below (B.U.setTop { g with pc := g.pc + 3, stack := v.toList ++ rest }) target → Steps p.tables e below (T.setTop g) target) ∨
    (∃ (q : Addr) (vm₁ : Vm) (B : Pt), s.WarmedH vm₁ ∧ Stand p l e R s m args below meth c B.U B.locs B.cells B.slots ∧ PostX ⟨T.setVm vm₁, locs, cells, slots⟩ (Value.ref b :: argsL).toArray q B ∧
      Steps p.tables e below (T.setTop g) ((B.U.setTop { g with stack := rest }).pushFrame (.throwing q))) := by
  obtain ⟨mk, methM, hnamed, hmethM, hstM, habM⟩ := Cond.instanceMethod_spec hinst
  obtain ⟨m8, methM', cM, hn8, hmethM', -, -, -, -, -, -, hsigM⟩ := Cond.codeWith_spec hcode
  cases Option.some.inj (hn8.symm.trans hnamed)
  cases hmethM.symm.trans hmethM'
  obtain ⟨c2, r2, m2, q1, q2, q3, q4, kP, hkP, hkPi⟩ := Cond.selects_spec hsel
  cases hcls.symm.trans q1
  cases (State.methodFound?_of_named hnamed hy).symm.trans q2
  cases hnamed.symm.trans q3
  have hselP : selectMethod e.platform s.vm cellB.cls mk = .method mk := by rw [Launch.admits_selectMethod X.admits]; exact q4
  obtain ⟨vm₁, X₁, hstep₁⟩ := X.invokevirtual hexec hown hlink hnamed hmethM hstM hkP hkPi hy (a := b) (cell := cellB) hcell
    (fun z h => by rw [h] at hobj; cases hobj) hselP hmethM habM hkP hkPi (g := g) hg (argsL := argsL) (rest := rest) (hlen _ hsigM) hstack hdg
  rcases hK m meth c ⟨T.setVm vm₁, locs, cells, slots⟩ { g with stack := rest } (.invokevirtual index) mk (Value.ref b :: argsL).toArray X₁ hg hsize hdg hW (X₁.named hnamed) (hpre vm₁ X₁.warmed) with ⟨v, B, X', hpost, hsteps⟩ | ⟨q, B, X', hpost, hsteps⟩
  · exact Or.inl ⟨v, vm₁, B, X₁.warmed, X', hpost, fun target h => hstep₁ _ fun acts => by rw [doInvoke_state]; exact hsteps.trans h⟩
  · exact Or.inr ⟨q, vm₁, B, X₁.warmed, X', hpost, hstep₁ _ fun acts => by rw [doInvoke_state]; exact hsteps⟩
theorem vx_callSX (X : Stand p l e R s m args below meth c T locs cells slots) (hexec : p.tables.exec = Jvm.exec) {own : String} {index : Nat} {y : MethodName} {bytes : ByteArray} {maxL : Nat} {ret : Option FieldType} {hh : List (Nat × Nat × Nat × Nat)}
    (hown : s.vm.findClass own = some m.cls) (hlink : (Cond.methodLink own index y).before args s = true) (hstat : (Cond.static y).before args s = true) (hinit : (Cond.initialized y.cls).before args s = true)
    (hcode : (Cond.codeWith y bytes maxL ret hh).before args s = true) (hy : y.cls ≠ "java/lang/invoke/MethodHandle" ∧ y.cls ≠ "java/lang/invoke/VarHandle")
    {W9 : Nat} {Pre : Pt → Array Value → Prop} {Post : Pt → Array Value → Option Value → Pt → Prop} {PostX : Pt → Array Value → Addr → Pt → Prop} (hK : vx_Back l R p e below s args y 3 W9 Pre Post PostX)
    {g : JFrame} (hg : g.method = m) (hsize : g.locals.size = c.maxLocals) {argsL rest : List Value} (hlen : ∀ sig, parseMethodDescriptor y.desc = some sig → argsL.length = sig.parameters.length)
    (hstack : g.stack = argsL.reverse ++ rest) (hW : 2 * g.monitorRoom + (rest.map fun v => v.category).sum ≤ W9) (hdg : decode c.code g.pc = .ok (.invokestatic index, 3))
    (hpre : ∀ vm₁, s.WarmedH vm₁ → Pre ⟨T.setVm vm₁, locs, cells, slots⟩ argsL.toArray) :
    (∃ (v : Option Value) (vm₁ : Vm) (B : Pt), s.WarmedH vm₁ ∧ Stand p l e R s m args below meth c B.U B.locs B.cells B.slots ∧ Post ⟨T.setVm vm₁, locs, cells, slots⟩ argsL.toArray v B ∧
      ∀ target, Steps p.tables e below (B.U.setTop { g with pc := g.pc + 3, stack := v.toList ++ rest }) target → Steps p.tables e below (T.setTop g) target) ∨
    (∃ (q : Addr) (vm₁ : Vm) (B : Pt), s.WarmedH vm₁ ∧ Stand p l e R s m args below meth c B.U B.locs B.cells B.slots ∧ PostX ⟨T.setVm vm₁, locs, cells, slots⟩ argsL.toArray q B ∧
      Steps p.tables e below (T.setTop g) ((B.U.setTop { g with stack := rest }).pushFrame (.throwing q))) := by
  obtain ⟨mk, methM, cM, hnamed, hmethM, -, -, -, -, -, -, hsigM⟩ := Cond.codeWith_spec hcode
  have hstatic : methM.isStatic = true := Cond.static_spec hnamed hmethM hstat
  obtain ⟨kP, hkP, -⟩ := className_of_methodNamed hnamed
  have hinitP : kP.init = .initialized := Cond.initialized_spec (findClass_of_methodNamed hnamed) hkP hinit
  obtain ⟨vm₁, X₁, hstep₁⟩ := X.invokestatic hexec hown hlink hnamed hmethM hstatic hkP hinitP hy (g := g) hg (argsL := argsL) (rest := rest) (hlen _ hsigM) hstack hdg
  rcases hK m meth c ⟨T.setVm vm₁, locs, cells, slots⟩ { g with stack := rest } (.invokestatic index) mk argsL.toArray X₁ hg hsize hdg hW (X₁.named hnamed) (hpre vm₁ X₁.warmed) with ⟨v, B, X', hpost, hsteps⟩ | ⟨q, B, X', hpost, hsteps⟩
  · exact Or.inl ⟨v, vm₁, B, X₁.warmed, X', hpost, fun target h => hstep₁ _ fun acts => by rw [doInvoke_state]; exact hsteps.trans h⟩
  · exact Or.inr ⟨q, vm₁, B, X₁.warmed, X', hpost, hstep₁ _ fun acts => by rw [doInvoke_state]; exact hsteps⟩
theorem vx_callVW (X : Stand p l e R s m args below meth c T locs cells slots) (hexec : p.tables.exec = Jvm.exec) {own C : String} {index : Nat} {y : MethodName} {bytes : ByteArray} {maxL : Nat} {ret : Option FieldType} {hh : List (Nat × Nat × Nat × Nat)}
    (hown : s.vm.findClass own = some m.cls) (hlink : (Cond.methodLink own index y).before args s = true) (hinst : (Cond.instanceMethod y).before args s = true) (hsel : (Cond.selects C y y).before args s = true)
    (hcode : (Cond.codeWith y bytes maxL ret hh).before args s = true) (hy : y.cls ≠ "java/lang/invoke/MethodHandle" ∧ y.cls ≠ "java/lang/invoke/VarHandle")
    {W9 : Nat} {Pre : Pt → Array Value → Prop} {Post : Pt → Array Value → Option Value → Pt → Prop} (hK : Back l R p e below s args y 3 W9 Pre Post)
    {b : Addr} {cellB : Cell} (hcell : T.heap[b]? = some cellB) (hobj : cellB.vm.isStatics = false) (hcls : s.vm.findClass C = some cellB.cls)
    {g : JFrame} (hg : g.method = m) (hsize : g.locals.size = c.maxLocals) {argsL rest : List Value} (hlen : ∀ sig, parseMethodDescriptor y.desc = some sig → argsL.length = sig.parameters.length)
    (hstack : g.stack = argsL.reverse ++ .ref b :: rest) (hW : 2 * g.monitorRoom + (rest.map fun v => v.category).sum ≤ W9) (hdg : decode c.code g.pc = .ok (.invokevirtual index, 3))
    (hpre : ∀ vm₁, s.WarmedH vm₁ → Pre ⟨T.setVm vm₁, locs, cells, slots⟩ (Value.ref b :: argsL).toArray) :
    ∃ (v : Option Value) (vm₁ : Vm) (B : Pt), s.WarmedH vm₁ ∧ Stand p l e R s m args below meth c B.U B.locs B.cells B.slots ∧ Post ⟨T.setVm vm₁, locs, cells, slots⟩ (Value.ref b :: argsL).toArray v B ∧
      ∀ target, Steps p.tables e below (B.U.setTop { g with pc := g.pc + 3, stack := v.toList ++ rest }) target → Steps p.tables e below (T.setTop g) target := by
  obtain ⟨mk, methM, hnamed, hmethM, hstM, habM⟩ := Cond.instanceMethod_spec hinst
  obtain ⟨m8, methM', cM, hn8, hmethM', -, -, -, -, -, -, hsigM⟩ := Cond.codeWith_spec hcode
  cases Option.some.inj (hn8.symm.trans hnamed)
  cases hmethM.symm.trans hmethM'
  obtain ⟨c2, r2, m2, q1, q2, q3, q4, kP, hkP, hkPi⟩ := Cond.selects_spec hsel
  cases hcls.symm.trans q1
  cases (State.methodFound?_of_named hnamed hy).symm.trans q2
  cases hnamed.symm.trans q3
  have hselP : selectMethod e.platform s.vm cellB.cls mk = .method mk := by rw [Launch.admits_selectMethod X.admits]; exact q4
  obtain ⟨vm₁, X₁, hstep₁⟩ := X.invokevirtual hexec hown hlink hnamed hmethM hstM hkP hkPi hy (a := b) (cell := cellB) hcell
    (fun z h => by rw [h] at hobj; cases hobj) hselP hmethM habM hkP hkPi (g := g) hg (argsL := argsL) (rest := rest) (hlen _ hsigM) hstack hdg
  obtain ⟨v, B, X', hpost, hsteps⟩ := hK m meth c ⟨T.setVm vm₁, locs, cells, slots⟩ { g with stack := rest } (.invokevirtual index) mk (Value.ref b :: argsL).toArray X₁ hg hsize hdg hW (X₁.named hnamed) (hpre vm₁ X₁.warmed)
  exact ⟨v, vm₁, B, X₁.warmed, X', hpost, fun target h => hstep₁ _ fun acts => by rw [doInvoke_state]; exact hsteps.trans h⟩
abbrev vx_CVW (R : Room) (s : State) (args : Array Value) (own C : String) (index : Nat) (y : MethodName) (bytes : ByteArray) (maxL : Nat) (ret : Option FieldType) (hh : List (Nat × Nat × Nat × Nat)) (ws : List Cond) (rm : Room) (mc ms n : Nat) : Prop :=
  (rm.cells = mc ∧ rm.slots = ms ∧ rm.frames + 1 ≤ R.frames ∧ 8 + (maxL + 11) + rm.locals ≤ R.locals ∧ (∀ w ∈ ws, ∀ (a' : Array Value) (U : State), s.WarmedH U.vm → w.before a' U = true) ∧ Cond.codeWith y bytes maxL ret hh ∈ ws) ∧
  (Cond.codeWith y bytes maxL ret hh).before args s = true ∧ (Cond.initialized y.cls).before args s = true ∧ (y.cls ≠ "java/lang/invoke/MethodHandle" ∧ y.cls ≠ "java/lang/invoke/VarHandle") ∧
  (∀ sig, parseMethodDescriptor y.desc = some sig → n = sig.parameters.length) ∧ (Cond.methodLink own index y).before args s = true ∧ (Cond.instanceMethod y).before args s = true ∧ (Cond.selects C y y).before args s = true
theorem vx_cwVW {own C : String} {index maxL mc ms : Nat} {y : MethodName} {bytes : ByteArray} {ret : Option FieldType} {hh : List (Nat × Nat × Nat × Nat)} {Ts ws ws' : List Cond} {rm : Room} (n : Nat) (ht : ∀ w ∈ Ts, w.before args s = true) (hT : GoodIn Ts (wsV own index C y ws)) (hw : ws = Cond.codeWith y bytes maxL ret hh :: ws') (hrc : rm.cells = mc) (hrs : rm.slots = ms)
    (hd : y.cls = C ∧ y.cls ≠ "java/lang/invoke/MethodHandle" ∧ y.cls ≠ "java/lang/invoke/VarHandle" ∧ (parseMethodDescriptor y.desc).map (fun d => d.parameters.length) = some n) (hR : rm.frames + 1 ≤ R.frames ∧ 8 + (maxL + 11) + rm.locals ≤ R.locals) :
    vx_CVW R s args own C index y bytes maxL ret hh ws rm mc ms n := by
  obtain ⟨hC, hd⟩ := hd
  subst hC
  have ok : ∀ w ∈ wsV own index y.cls y ws, w.before args s = true := fun w h => ht w (hT w h).1
  have hG : GoodIn Ts ws := fun w h => hT w (by unfold wsV; exact List.mem_append_right _ h)
  have hc : Cond.codeWith y bytes maxL ret hh ∈ ws := by rw [hw]; exact List.mem_cons_self
  refine ⟨⟨hrc, hrs, hR.1, hR.2, pay_in ht hG, hc⟩, ht _ (hG _ hc).1, ok _ (by simp [wsV]), ⟨hd.1, hd.2.1⟩, fun sig h => ?_, ok _ (by simp [wsV]), ok _ (by simp [wsV]), ok _ (by simp [wsV])⟩
  have h2 := hd.2.2
  rw [h] at h2
  exact (Option.some.inj h2).symm
theorem vx_runVW {y : MethodName} {bytes cc : ByteArray} {maxL nL mc ms n index : Nat} {ret : Option FieldType} {hh : List (Nat × Nat × Nat × Nat)} {ws : List Cond} {rm : Room} {Pc : Array Value → State → Prop} {Qc : Array Value → State → Outcome → State → Prop} {free : Addr → Prop} {Ts : List Cond} {own C : String} {b : Addr} {As rest : List Value} {g : JFrame}
    (S : CallFix p m c cc nL s args Ts own) (hM : Met l y ws rm Pc Qc mc ms free) (cw : vx_CVW R s args own C index y bytes maxL ret hh ws rm mc ms n) (hp : PreV s H C b Pc As)
    (hg : g.method = m) (hn : As.length = n) (hsize : g.locals.size = nL) (hstack : g.stack = As.reverse ++ .ref b :: rest) (hW : 2 * g.monitorRoom + (rest.map fun v => v.category).sum ≤ 8) (hdg : decode cc g.pc = .ok (.invokevirtual index, 3)) (hf : cells + mc ≤ R.cells ∧ slots + ms ≤ R.slots) :
    va_Run p l e R s m args below meth c H locs cells slots mc ms g rest (Qc (Value.ref b :: As).toArray) free := by
  obtain ⟨⟨hrc, hrs, hfr, hlo, hws, hcw⟩, hcode, hini, hy, hlen, hl, hin, hse⟩ := cw
  have hK : Back l R p e below s args y 3 8 (PreOf R mc ms Pc) (PostOf Qc mc ms free) := va_backW (hh := hh) (bytes := bytes) (maxL := maxL) (ret := ret) hM hp.1 hrc hrs hfr hlo hws hcw (fun a' U hW => word_at hW (Or.inl (by first | rfl | simp [Cond.onTables, Cond.keeps, Cond.steady])) hini)
  obtain ⟨hx, hb, hml, ho, -⟩ := S
  obtain ⟨-, ⟨cellB, hcB, hoB, hclB⟩, hPc⟩ := hp
  intro T hT X
  obtain ⟨v, vm₁, ⟨U', l2, c2, s2⟩, hW₁, X', ⟨g', mk, t, L, e1, e2, hq, h1, hL, h2, h3⟩, st⟩ := vx_callVW X hx (C := C) (hh := hh) (bytes := bytes) (maxL := maxL) (ret := ret) ho hl hin hse hcode hy hK (by rw [hT]; exact hcB) hoB hclB hg (hsize.trans hml.symm) (argsL := As) (rest := rest) (fun sig h => hn.trans (hlen sig h)) hstack hW (by rw [hb]; exact hdg)
    (fun vm₁ hW₁ => ⟨hf.1, hf.2, hPc (T.setVm vm₁) hT hW₁⟩)
  dsimp only [Pt.U, Pt.locs, Pt.cells, Pt.slots] at X' e1 e2 h1 h2 h3 st
  subst h1; subst h2; subst h3
  exact ⟨v, (T.setVm vm₁).calling g' mk (Value.ref b :: As).toArray, t, U', L, hT, X', hL, e1, e2, hq, st⟩
section
variable {y : MethodName} {bytes cc : ByteArray} {maxL nL mc ms n index : Nat} {ret : Option FieldType} {ws : List Cond} {rm : Room} {Pc : Array Value → State → Prop} {Qc : Array Value → State → Outcome → State → Prop} {XC : String → State → State → Prop} {free : Addr → Prop} {Ts : List Cond} {own C : String} {b : Addr} {As rest : List Value} {g : JFrame}
theorem vx_runVX {hh : List (Nat × Nat × Nat × Nat)} (S : CallFix p m c cc nL s args Ts own) (hM : vx_Met l y ws rm Pc Qc XC mc ms free) (cw : vx_CVW R s args own C index y bytes maxL ret hh ws rm mc ms n) (hp : PreV s H C b Pc As)
    (hg : g.method = m) (hn : As.length = n) (hsize : g.locals.size = nL) (hstack : g.stack = As.reverse ++ .ref b :: rest) (hW : 2 * g.monitorRoom + (rest.map fun v => v.category).sum ≤ 8) (hdg : decode cc g.pc = .ok (.invokevirtual index, 3)) (hf : cells + mc ≤ R.cells ∧ slots + ms ≤ R.slots) :
    vx_Run p l e R s m args below meth c H locs cells slots mc ms g rest (Qc (Value.ref b :: As).toArray) XC free := by
  obtain ⟨⟨hrc, hrs, hfr, hlo, hws, hcw⟩, hcode, hini, hy, hlen, hl, hin, hse⟩ := cw
  have hK : vx_Back l R p e below s args y 3 8 (PreOf R mc ms Pc) (PostOf Qc mc ms free) (vx_Post XC mc ms free) := vx_backW (hh := hh) (bytes := bytes) (maxL := maxL) (ret := ret) hM hp.1 hrc hrs hfr hlo hws hcw (fun a' U hW => word_at hW (Or.inl (by first | rfl | simp [Cond.onTables, Cond.keeps, Cond.steady])) hini)
  obtain ⟨hx, hb, hml, ho, -⟩ := S
  obtain ⟨-, ⟨cellB, hcB, hoB, hclB⟩, hPc⟩ := hp
  intro T hT X
  rcases vx_callVX X hx (C := C) (hh := hh) (bytes := bytes) (maxL := maxL) (ret := ret) ho hl hin hse hcode hy hK (by rw [hT]; exact hcB) hoB hclB hg (hsize.trans hml.symm) (argsL := As) (rest := rest) (fun sig h => hn.trans (hlen sig h)) hstack hW (by rw [hb]; exact hdg)
    (fun vm₁ hW₁ => ⟨hf.1, hf.2, hPc (T.setVm vm₁) hT hW₁⟩) with ⟨v, vm₁, ⟨U', l2, c2, s2⟩, hW₁, X', ⟨g', mk, t, L, e1, e2, hq, h1, hL, h2, h3⟩, st⟩ | ⟨q, vm₁, ⟨U', l2, c2, s2⟩, hW₁, X', ⟨g', mk, t, L, E, ce, e1, e2, hq, hce, hcv, hcl, h1, hL, h2, h3⟩, st⟩
  · dsimp only [Pt.U, Pt.locs, Pt.cells, Pt.slots] at X' e1 e2 h1 h2 h3 st
    subst h1; subst h2; subst h3
    exact Or.inl ⟨v, (T.setVm vm₁).calling g' mk (Value.ref b :: As).toArray, t, U', L, hT, X', hL, e1, e2, hq, st⟩
  · dsimp only [Pt.U, Pt.locs, Pt.cells, Pt.slots] at X' e1 e2 h1 h2 h3 st hcl
    subst h1; subst h2; subst h3
    exact Or.inr ⟨q, (T.setVm vm₁).calling g' mk (Value.ref b :: As).toArray, t, U', L, E, ce, hT, X', hL, e1, e2, hq, hce, hcv, vx_cls hW₁ hcl, st⟩
theorem vx_runSX {hh : List (Nat × Nat × Nat × Nat)} (S : CallFix p m c cc nL s args Ts own) (hM : vx_Met l y ws rm Pc Qc XC mc ms free) (cw : vx_CSW R s args own index y bytes maxL ret hh ws rm mc ms n) (hp : PreS s H Pc As)
    (hg : g.method = m) (hn : As.length = n) (hsize : g.locals.size = nL) (hstack : g.stack = As.reverse ++ rest) (hW : 2 * g.monitorRoom + (rest.map fun v => v.category).sum ≤ 8) (hdg : decode cc g.pc = .ok (.invokestatic index, 3)) (hf : cells + mc ≤ R.cells ∧ slots + ms ≤ R.slots) :
    vx_Run p l e R s m args below meth c H locs cells slots mc ms g rest (Qc As.toArray) XC free := by
  obtain ⟨⟨hrc, hrs, hfr, hlo, hws, hcw⟩, hcode, hini, hy, hlen, hl, hstt⟩ := cw
  have hK : vx_Back l R p e below s args y 3 8 (PreOf R mc ms Pc) (PostOf Qc mc ms free) (vx_Post XC mc ms free) := vx_backW (hh := hh) (bytes := bytes) (maxL := maxL) (ret := ret) hM hp.1 hrc hrs hfr hlo hws hcw (fun a' U hW => word_at hW (Or.inl (by first | rfl | simp [Cond.onTables, Cond.keeps, Cond.steady])) hini)
  obtain ⟨hx, hb, hml, ho, -⟩ := S
  intro T hT X
  rcases vx_callSX X hx (hh := hh) (bytes := bytes) (maxL := maxL) (ret := ret) ho hl hstt hini hcode hy hK hg (hsize.trans hml.symm) (argsL := As) (rest := rest) (fun sig h => hn.trans (hlen sig h)) hstack hW (by rw [hb]; exact hdg)
    (fun vm₁ hW₁ => ⟨hf.1, hf.2, hp.2 (T.setVm vm₁) hT hW₁⟩) with ⟨v, vm₁, ⟨U', l2, c2, s2⟩, hW₁, X', ⟨g', mk, t, L, e1, e2, hq, h1, hL, h2, h3⟩, st⟩ | ⟨q, vm₁, ⟨U', l2, c2, s2⟩, hW₁, X', ⟨g', mk, t, L, E, ce, e1, e2, hq, hce, hcv, hcl, h1, hL, h2, h3⟩, st⟩
  · dsimp only [Pt.U, Pt.locs, Pt.cells, Pt.slots] at X' e1 e2 h1 h2 h3 st
    subst h1; subst h2; subst h3
    exact Or.inl ⟨v, (T.setVm vm₁).calling g' mk As.toArray, t, U', L, hT, X', hL, e1, e2, hq, st⟩
  · dsimp only [Pt.U, Pt.locs, Pt.cells, Pt.slots] at X' e1 e2 h1 h2 h3 st hcl
    subst h1; subst h2; subst h3
    exact Or.inr ⟨q, (T.setVm vm₁).calling g' mk As.toArray, t, U', L, E, ce, hT, X', hL, e1, e2, hq, hce, hcv, vx_cls hW₁ hcl, st⟩
end
end VXH
theorem vx_ofWH {l : Launch} {y : MethodName} {ws ws' : List Cond} {rm : Room} {Pc : Array Value → State → Prop} {Qc : Array Value → State → Outcome → State → Prop} {XC : String → State → State → Prop} {mc ms : Nat} {free : Addr → Prop} {cc : ByteArray} {maxL : Nat} {ret : Option FieldType} {hh : List (Nat × Nat × Nat × Nat)}
    (hy : plainName y.cls = true) (hw : ws = Cond.codeWith y cc maxL ret hh :: ws')
    (body : ∀ p e s m args below meth c s₁, BodyLoose p l y (headSpec ws rm) cc maxL ret e s m args below meth c s₁ → c.maxLocals = maxL → Pc args s →
      W p l e (headSpec ws rm).room s m args below meth c s.heap [] 0 0 (vx_MQ below Qc XC args s mc ms free) (entryFrame m args maxL)) : vx_Met l y ws rm Pc Qc XC mc ms free := by
  refine MetFree.of_bodyS (code := cc) (maxLocals := maxL) (ret := ret) hy ?_ ?_
  · intro args s m h hn
    obtain ⟨m9, meth, c, hn9, h1, h2, h3, h4, -, h5, h6, -⟩ := Cond.codeWith_spec (atoms_spec (ws := ws) h _ (by rw [hw]; exact List.mem_cons_self))
    cases hn.symm.trans hn9
    exact ⟨meth, c, h1, h2, h3, h4, h5, h6⟩
  · intro p e s m args below meth c s₁ B hml hP _
    have hh0 : s₁.heap = s.heap := by rw [B.state]; rfl
    obtain ⟨t, a1, o, b1, b2, b3⟩ := body p e s m args below meth c s₁ B hml hP s₁ hh0 (Stand.of_body B)
    exact ⟨t, o, a1, b1, b2, b3⟩
/-! ===== END ===== -/
end
section
/-! ===== BEGIN printed: names, fields, word lists, decode rows ===== -/
def RX0 : String := "FilmPlayer$Film"
def TX0 : u_T := fun k => match k with
  | 0 => ("FilmPlayer$Film", "store", "LFilmPlayer$Store;", true)
  | 1 => ("FilmPlayer$Film", "fates", "[I", true)
  | 2 => ("FilmPlayer$Film", "nextFrame", "I", false)
  | 3 => ("FilmPlayer$Film", "beginTick", "I", false)
  | 4 => ("FilmPlayer$Film", "turnTick", "I", false)
  | _ => ("FilmPlayer$Film", "shownCount", "I", false)
def tyX0 : Nat → FieldType := fun k => match k with
  | 0 => .object "FilmPlayer$Store"
  | 1 => .array .int
  | 2 => .int
  | 3 => .int
  | 4 => .int
  | _ => .int
abbrev wsX00 : List Cond := u_ws RX0 TX0 6
theorem nmX0 : ∀ a, a < 6 → ∀ b, b < 6 → a ≠ b → (TX0 a).2.1 ≠ (TX0 b).2.1 := by decide +kernel
theorem tyX0_ok : ∀ k, k < 6 → parseFieldDescriptor (TX0 k).2.2.1 = some (tyX0 k) := by decide +kernel
abbrev cX0_init : ByteArray := prog_2_method_1_code
def yX0_init : MethodName := ⟨RX0, "<init>", "(LFilmPlayer$Store;)V"⟩
abbrev cX0_kind : ByteArray := prog_2_method_2_code
def yX0_kind : MethodName := ⟨RX0, "kind", "(I)I"⟩
abbrev cX0_needBefore : ByteArray := prog_2_method_3_code
def yX0_needBefore : MethodName := ⟨RX0, "needBefore", "(I)I"⟩
abbrev cX0_needBehind : ByteArray := prog_2_method_4_code
def yX0_needBehind : MethodName := ⟨RX0, "needBehind", "(I)I"⟩
abbrev cX0_play : ByteArray := prog_2_method_5_code
def yX0_play : MethodName := ⟨RX0, "play", "(I)V"⟩
abbrev cX0_canBegin : ByteArray := prog_2_method_6_code
def yX0_canBegin : MethodName := ⟨RX0, "canBegin", "()Z"⟩
abbrev cX0_giveTurn : ByteArray := prog_2_method_7_code
def yX0_giveTurn : MethodName := ⟨RX0, "giveTurn", "(I)V"⟩
abbrev cX0_outcomeOf : ByteArray := prog_2_method_8_code
def yX0_outcomeOf : MethodName := ⟨RX0, "outcomeOf", "(I)I"⟩
abbrev cX0_wasShown : ByteArray := prog_2_method_9_code
def yX0_wasShown : MethodName := ⟨RX0, "wasShown", "(I)Z"⟩
abbrev cX0_isWholeIfAny : ByteArray := prog_2_method_10_code
def yX0_isWholeIfAny : MethodName := ⟨RX0, "isWholeIfAny", "(I)Z"⟩
abbrev cX0_pace : ByteArray := prog_2_method_11_code
def yX0_pace : MethodName := ⟨RX0, "pace", "()I"⟩
abbrev cX0_wholeAhead : ByteArray := prog_2_method_12_code
def yX0_wholeAhead : MethodName := ⟨RX0, "wholeAhead", "()I"⟩
abbrev cX0_countShowable : ByteArray := prog_2_method_13_code
def yX0_countShowable : MethodName := ⟨RX0, "countShowable", "()I"⟩
abbrev cX0_isAnchorShowable : ByteArray := prog_2_method_14_code
def yX0_isAnchorShowable : MethodName := ⟨RX0, "isAnchorShowable", "(I)Z"⟩
abbrev cX0_delay : ByteArray := prog_2_method_15_code
def yX0_delay : MethodName := ⟨RX0, "delay", "()I"⟩
def RX1 : String := "FilmPlayer$Ring"
def TX1 : u_T := fun k => match k with
  | 0 => ("FilmPlayer$Ring", "packets", "[I", true)
  | 1 => ("FilmPlayer$Ring", "arrivals", "[I", true)
  | 2 => ("FilmPlayer$Ring", "count", "I", false)
  | 3 => ("FilmPlayer$Ring", "size", "I", false)
  | 4 => ("FilmPlayer$Ring", "join", "I", false)
  | 5 => ("FilmPlayer$Ring", "patience", "I", false)
  | 6 => ("FilmPlayer$Ring", "load", "I", false)
  | 7 => ("FilmPlayer$Ring", "polling", "Z", false)
  | _ => ("FilmPlayer$Ring", "lostCount", "I", false)
def tyX1 : Nat → FieldType := fun k => match k with
  | 0 => .array .int
  | 1 => .array .int
  | 2 => .int
  | 3 => .int
  | 4 => .int
  | 5 => .int
  | 6 => .int
  | 7 => .boolean
  | _ => .int
abbrev wsX10 : List Cond := u_ws RX1 TX1 9
theorem nmX1 : ∀ a, a < 9 → ∀ b, b < 9 → a ≠ b → (TX1 a).2.1 ≠ (TX1 b).2.1 := by decide +kernel
theorem tyX1_ok : ∀ k, k < 9 → parseFieldDescriptor (TX1 k).2.2.1 = some (tyX1 k) := by decide +kernel
abbrev cX1_init : ByteArray := prog_3_method_1_code
def yX1_init : MethodName := ⟨RX1, "<init>", "()V"⟩
abbrev cX1_put : ByteArray := prog_3_method_2_code
def yX1_put : MethodName := ⟨RX1, "put", "(II)Z"⟩
abbrev cX1_loseAll : ByteArray := prog_3_method_3_code
def yX1_loseAll : MethodName := ⟨RX1, "loseAll", "()I"⟩
abbrev cX1_chooseMany : ByteArray := prog_3_method_4_code
def yX1_chooseMany : MethodName := ⟨RX1, "chooseMany", "(I)I"⟩
abbrev cX1_isInterruptDue : ByteArray := prog_3_method_5_code
def yX1_isInterruptDue : MethodName := ⟨RX1, "isInterruptDue", "(I)Z"⟩
abbrev cX1_packetAt : ByteArray := prog_3_method_6_code
def yX1_packetAt : MethodName := ⟨RX1, "packetAt", "(I)I"⟩
abbrev cX1_removeFirst : ByteArray := prog_3_method_7_code
def yX1_removeFirst : MethodName := ⟨RX1, "removeFirst", "(I)V"⟩
def RX2 : String := "FilmPlayer$Store"
def TX2 : u_T := fun k => match k with
  | 0 => ("FilmPlayer$Store", "had", "[Z", true)
  | 1 => ("FilmPlayer$Store", "askedRow", "[I", true)
  | 2 => ("FilmPlayer$Store", "askedCount", "I", false)
  | 3 => ("FilmPlayer$Store", "highest", "I", false)
  | _ => ("FilmPlayer$Store", "lookedUpTo", "I", false)
def tyX2 : Nat → FieldType := fun k => match k with
  | 0 => .array .boolean
  | 1 => .array .int
  | 2 => .int
  | 3 => .int
  | _ => .int
abbrev wsX20 : List Cond := u_ws RX2 TX2 5
theorem nmX2 : ∀ a, a < 5 → ∀ b, b < 5 → a ≠ b → (TX2 a).2.1 ≠ (TX2 b).2.1 := by decide +kernel
theorem tyX2_ok : ∀ k, k < 5 → parseFieldDescriptor (TX2 k).2.2.1 = some (tyX2 k) := by decide +kernel
abbrev cX2_init : ByteArray := prog_4_method_1_code
def yX2_init : MethodName := ⟨RX2, "<init>", "()V"⟩
abbrev cX2_add : ByteArray := prog_4_method_2_code
def yX2_add : MethodName := ⟨RX2, "add", "(I)V"⟩
abbrev cX2_holds : ByteArray := prog_4_method_3_code
def yX2_holds : MethodName := ⟨RX2, "holds", "(I)Z"⟩
abbrev cX2_holdsFrame : ByteArray := prog_4_method_4_code
def yX2_holdsFrame : MethodName := ⟨RX2, "holdsFrame", "(I)Z"⟩
abbrev cX2_askForMissing : ByteArray := prog_4_method_5_code
def yX2_askForMissing : MethodName := ⟨RX2, "askForMissing", "(I)V"⟩
abbrev cX2_ask : ByteArray := prog_4_method_6_code
def yX2_ask : MethodName := ⟨RX2, "ask", "(I)V"⟩
def RX3 : String := "FilmPlayer"
def TX3 : u_T := fun k => match k with
  | 0 => ("FilmPlayer", "ring", "LFilmPlayer$Ring;", true)
  | 1 => ("FilmPlayer", "store", "LFilmPlayer$Store;", true)
  | 2 => ("FilmPlayer", "film", "LFilmPlayer$Film;", true)
  | _ => ("FilmPlayer", "now", "I", false)
def tyX3 : Nat → FieldType := fun k => match k with
  | 0 => .object "FilmPlayer$Ring"
  | 1 => .object "FilmPlayer$Store"
  | 2 => .object "FilmPlayer$Film"
  | _ => .int
abbrev wsX30 : List Cond := u_ws RX3 TX3 4
theorem nmX3 : ∀ a, a < 4 → ∀ b, b < 4 → a ≠ b → (TX3 a).2.1 ≠ (TX3 b).2.1 := by decide +kernel
theorem tyX3_ok : ∀ k, k < 4 → parseFieldDescriptor (TX3 k).2.2.1 = some (tyX3 k) := by decide +kernel
abbrev cX3_init : ByteArray := prog_1_method_1_code
def yX3_init : MethodName := ⟨RX3, "<init>", "()V"⟩
abbrev cX3_set : ByteArray := prog_1_method_2_code
def yX3_set : MethodName := ⟨RX3, "set", "(IIII)V"⟩
abbrev cX3_arrive : ByteArray := prog_1_method_3_code
def yX3_arrive : MethodName := ⟨RX3, "arrive", "(I)I"⟩
abbrev cX3_arriveRow : ByteArray := prog_1_method_4_code
def yX3_arriveRow : MethodName := ⟨RX3, "arriveRow", "(II)I"⟩
abbrev cX3_advance : ByteArray := prog_1_method_5_code
def yX3_advance : MethodName := ⟨RX3, "advance", "(I)I"⟩
abbrev cX3_reset : ByteArray := prog_1_method_6_code
def yX3_reset : MethodName := ⟨RX3, "reset", "()I"⟩
abbrev cX3_tick : ByteArray := prog_1_method_7_code
def yX3_tick : MethodName := ⟨RX3, "tick", "()I"⟩
abbrev cX3_waiting : ByteArray := prog_1_method_8_code
def yX3_waiting : MethodName := ⟨RX3, "waiting", "()I"⟩
abbrev cX3_lost : ByteArray := prog_1_method_9_code
def yX3_lost : MethodName := ⟨RX3, "lost", "()I"⟩
abbrev cX3_isPolled : ByteArray := prog_1_method_10_code
def yX3_isPolled : MethodName := ⟨RX3, "isPolled", "()Z"⟩
abbrev cX3_has : ByteArray := prog_1_method_11_code
def yX3_has : MethodName := ⟨RX3, "has", "(I)Z"⟩
abbrev cX3_askedAt : ByteArray := prog_1_method_12_code
def yX3_askedAt : MethodName := ⟨RX3, "askedAt", "(I)I"⟩
abbrev cX3_asked : ByteArray := prog_1_method_13_code
def yX3_asked : MethodName := ⟨RX3, "asked", "()I"⟩
abbrev cX3_kindOf : ByteArray := prog_1_method_14_code
def yX3_kindOf : MethodName := ⟨RX3, "kindOf", "(I)I"⟩
abbrev cX3_need : ByteArray := prog_1_method_15_code
def yX3_need : MethodName := ⟨RX3, "need", "(IZ)I"⟩
abbrev cX3_isWhole : ByteArray := prog_1_method_16_code
def yX3_isWhole : MethodName := ⟨RX3, "isWhole", "(I)Z"⟩
abbrev cX3_fate : ByteArray := prog_1_method_17_code
def yX3_fate : MethodName := ⟨RX3, "fate", "(I)I"⟩
abbrev cX3_next : ByteArray := prog_1_method_18_code
def yX3_next : MethodName := ⟨RX3, "next", "()I"⟩
abbrev cX3_turn : ByteArray := prog_1_method_19_code
def yX3_turn : MethodName := ⟨RX3, "turn", "()I"⟩
abbrev cX3_fill : ByteArray := prog_1_method_20_code
def yX3_fill : MethodName := ⟨RX3, "fill", "()I"⟩
abbrev cX3_shown : ByteArray := prog_1_method_21_code
def yX3_shown : MethodName := ⟨RX3, "shown", "()I"⟩
abbrev cX3_couldBe : ByteArray := prog_1_method_22_code
def yX3_couldBe : MethodName := ⟨RX3, "couldBe", "()I"⟩
abbrev cX3_gap : ByteArray := prog_1_method_23_code
def yX3_gap : MethodName := ⟨RX3, "gap", "()I"⟩
abbrev cX3_passTick : ByteArray := prog_1_method_24_code
def yX3_passTick : MethodName := ⟨RX3, "passTick", "()V"⟩
abbrev cX3_isFromOneTo : ByteArray := prog_1_method_25_code
def yX3_isFromOneTo : MethodName := ⟨RX3, "isFromOneTo", "(II)Z"⟩
abbrev cX3_isPacket : ByteArray := prog_1_method_26_code
def yX3_isPacket : MethodName := ⟨RX3, "isPacket", "(I)Z"⟩
abbrev cX3_isFrame : ByteArray := prog_1_method_27_code
def yX3_isFrame : MethodName := ⟨RX3, "isFrame", "(I)Z"⟩
def RX4 : String := "FilmPlayerModel"
def TX4 : u_T := fun k => match k with
  | 0 => ("FilmPlayerModel", "size", "I", false)
  | 1 => ("FilmPlayerModel", "join", "I", false)
  | 2 => ("FilmPlayerModel", "patience", "I", false)
  | 3 => ("FilmPlayerModel", "load", "I", false)
  | 4 => ("FilmPlayerModel", "ring", "[I", true)
  | 5 => ("FilmPlayerModel", "came", "[I", true)
  | 6 => ("FilmPlayerModel", "head", "I", false)
  | 7 => ("FilmPlayerModel", "waiting", "I", false)
  | 8 => ("FilmPlayerModel", "isPolled", "Z", false)
  | 9 => ("FilmPlayerModel", "lost", "I", false)
  | 10 => ("FilmPlayerModel", "tick", "I", false)
  | 11 => ("FilmPlayerModel", "has", "[Z", true)
  | 12 => ("FilmPlayerModel", "wasAsked", "[Z", true)
  | 13 => ("FilmPlayerModel", "asked", "[I", true)
  | 14 => ("FilmPlayerModel", "askedFor", "I", false)
  | 15 => ("FilmPlayerModel", "fate", "[I", true)
  | 16 => ("FilmPlayerModel", "could", "[Z", true)
  | 17 => ("FilmPlayerModel", "hasBegun", "Z", false)
  | 18 => ("FilmPlayerModel", "begun", "I", false)
  | 19 => ("FilmPlayerModel", "next", "I", false)
  | 20 => ("FilmPlayerModel", "turn", "I", false)
  | _ => ("FilmPlayerModel", "thrown", "I", false)
def tyX4 : Nat → FieldType := fun k => match k with
  | 0 => .int
  | 1 => .int
  | 2 => .int
  | 3 => .int
  | 4 => .array .int
  | 5 => .array .int
  | 6 => .int
  | 7 => .int
  | 8 => .boolean
  | 9 => .int
  | 10 => .int
  | 11 => .array .boolean
  | 12 => .array .boolean
  | 13 => .array .int
  | 14 => .int
  | 15 => .array .int
  | 16 => .array .boolean
  | 17 => .boolean
  | 18 => .int
  | 19 => .int
  | 20 => .int
  | _ => .int
abbrev wsX40 : List Cond := u_ws RX4 TX4 22
theorem nmX4 : ∀ a, a < 22 → ∀ b, b < 22 → a ≠ b → (TX4 a).2.1 ≠ (TX4 b).2.1 := by decide +kernel
theorem tyX4_ok : ∀ k, k < 22 → parseFieldDescriptor (TX4 k).2.2.1 = some (tyX4 k) := by decide +kernel
abbrev cX4_init : ByteArray := prog_6_method_1_code
def yX4_init : MethodName := ⟨RX4, "<init>", "()V"⟩
abbrev cX4_thrown : ByteArray := prog_6_method_2_code
def yX4_thrown : MethodName := ⟨RX4, "thrown", "()I"⟩
abbrev cX4_fails : ByteArray := prog_6_method_3_code
def yX4_fails : MethodName := ⟨RX4, "fails", "(I)I"⟩
abbrev cX4_asks : ByteArray := prog_6_method_4_code
def yX4_asks : MethodName := ⟨RX4, "asks", "(Z)Z"⟩
abbrev cX4_in : ByteArray := prog_6_method_5_code
def yX4_in : MethodName := ⟨RX4, "in", "(III)Z"⟩
abbrev cX4_set : ByteArray := prog_6_method_6_code
def yX4_set : MethodName := ⟨RX4, "set", "(IIII)V"⟩
abbrev cX4_comes : ByteArray := prog_6_method_7_code
def yX4_comes : MethodName := ⟨RX4, "comes", "(I)Z"⟩
abbrev cX4_arrive : ByteArray := prog_6_method_8_code
def yX4_arrive : MethodName := ⟨RX4, "arrive", "(I)I"⟩
abbrev cX4_arriveRow : ByteArray := prog_6_method_9_code
def yX4_arriveRow : MethodName := ⟨RX4, "arriveRow", "(II)I"⟩
abbrev cX4_takes : ByteArray := prog_6_method_10_code
def yX4_takes : MethodName := ⟨RX4, "takes", "(I)V"⟩
abbrev cX4_drives : ByteArray := prog_6_method_11_code
def yX4_drives : MethodName := ⟨RX4, "drives", "()V"⟩
abbrev cX4_asksFor : ByteArray := prog_6_method_12_code
def yX4_asksFor : MethodName := ⟨RX4, "asksFor", "()V"⟩
abbrev cX4_whole : ByteArray := prog_6_method_13_code
def yX4_whole : MethodName := ⟨RX4, "whole", "(I)Z"⟩
abbrev cX4_kind : ByteArray := prog_6_method_14_code
def yX4_kind : MethodName := ⟨RX4, "kind", "(I)I"⟩
abbrev cX4_before : ByteArray := prog_6_method_15_code
def yX4_before : MethodName := ⟨RX4, "before", "(I)I"⟩
abbrev cX4_behind : ByteArray := prog_6_method_16_code
def yX4_behind : MethodName := ⟨RX4, "behind", "(I)I"⟩
abbrev cX4_fillNow : ByteArray := prog_6_method_17_code
def yX4_fillNow : MethodName := ⟨RX4, "fillNow", "()I"⟩
abbrev cX4_turns : ByteArray := prog_6_method_18_code
def yX4_turns : MethodName := ⟨RX4, "turns", "()V"⟩
abbrev cX4_passes : ByteArray := prog_6_method_19_code
def yX4_passes : MethodName := ⟨RX4, "passes", "()V"⟩
abbrev cX4_advance : ByteArray := prog_6_method_20_code
def yX4_advance : MethodName := ⟨RX4, "advance", "(I)I"⟩
abbrev cX4_reset : ByteArray := prog_6_method_21_code
def yX4_reset : MethodName := ⟨RX4, "reset", "()I"⟩
abbrev cX4_tick : ByteArray := prog_6_method_22_code
def yX4_tick : MethodName := ⟨RX4, "tick", "()I"⟩
abbrev cX4_waiting : ByteArray := prog_6_method_23_code
def yX4_waiting : MethodName := ⟨RX4, "waiting", "()I"⟩
abbrev cX4_lost : ByteArray := prog_6_method_24_code
def yX4_lost : MethodName := ⟨RX4, "lost", "()I"⟩
abbrev cX4_isPolled : ByteArray := prog_6_method_25_code
def yX4_isPolled : MethodName := ⟨RX4, "isPolled", "()Z"⟩
abbrev cX4_has : ByteArray := prog_6_method_26_code
def yX4_has : MethodName := ⟨RX4, "has", "(I)Z"⟩
abbrev cX4_askedAt : ByteArray := prog_6_method_27_code
def yX4_askedAt : MethodName := ⟨RX4, "askedAt", "(I)I"⟩
abbrev cX4_asked : ByteArray := prog_6_method_28_code
def yX4_asked : MethodName := ⟨RX4, "asked", "()I"⟩
abbrev cX4_isFrame : ByteArray := prog_6_method_29_code
def yX4_isFrame : MethodName := ⟨RX4, "isFrame", "(I)Z"⟩
abbrev cX4_kindOf : ByteArray := prog_6_method_30_code
def yX4_kindOf : MethodName := ⟨RX4, "kindOf", "(I)I"⟩
abbrev cX4_need : ByteArray := prog_6_method_31_code
def yX4_need : MethodName := ⟨RX4, "need", "(IZ)I"⟩
abbrev cX4_isWhole : ByteArray := prog_6_method_32_code
def yX4_isWhole : MethodName := ⟨RX4, "isWhole", "(I)Z"⟩
abbrev cX4_fate : ByteArray := prog_6_method_33_code
def yX4_fate : MethodName := ⟨RX4, "fate", "(I)I"⟩
abbrev cX4_next : ByteArray := prog_6_method_34_code
def yX4_next : MethodName := ⟨RX4, "next", "()I"⟩
abbrev cX4_turn : ByteArray := prog_6_method_35_code
def yX4_turn : MethodName := ⟨RX4, "turn", "()I"⟩
abbrev cX4_fill : ByteArray := prog_6_method_36_code
def yX4_fill : MethodName := ⟨RX4, "fill", "()I"⟩
abbrev cX4_shown : ByteArray := prog_6_method_37_code
def yX4_shown : MethodName := ⟨RX4, "shown", "()I"⟩
abbrev cX4_couldBe : ByteArray := prog_6_method_38_code
def yX4_couldBe : MethodName := ⟨RX4, "couldBe", "()I"⟩
abbrev cX4_gap : ByteArray := prog_6_method_39_code
def yX4_gap : MethodName := ⟨RX4, "gap", "()I"⟩
def RJ9 : String := "java/lang/Math"
def TJ9 : u_T := fun k => match k with
  | _ => ("", "", "", false)
def tyJ9 : Nat → FieldType := fun k => match k with
  | _ => .int
abbrev wsJ90 : List Cond := u_ws RJ9 TJ9 0
theorem nmJ9 : ∀ a, a < 0 → ∀ b, b < 0 → a ≠ b → (TJ9 a).2.1 ≠ (TJ9 b).2.1 := by decide +kernel
theorem tyJ9_ok : ∀ k, k < 0 → parseFieldDescriptor (TJ9 k).2.2.1 = some (tyJ9 k) := by decide +kernel
abbrev cJ9_max_7cf53 : ByteArray := prog_11_method_65_code
def yJ9_max_7cf53 : MethodName := ⟨RJ9, "max", "(II)I"⟩
abbrev cJ9_min_7cf53 : ByteArray := prog_11_method_69_code
def yJ9_min_7cf53 : MethodName := ⟨RJ9, "min", "(II)I"⟩
def RJ0 : String := "java/lang/String"
def TJ0 : u_T := fun k => match k with
  | _ => ("", "", "", false)
def tyJ0 : Nat → FieldType := fun k => match k with
  | _ => .int
abbrev wsJ00 : List Cond := u_ws RJ0 TJ0 0
theorem nmJ0 : ∀ a, a < 0 → ∀ b, b < 0 → a ≠ b → (TJ0 a).2.1 ≠ (TJ0 b).2.1 := by decide +kernel
theorem tyJ0_ok : ∀ k, k < 0 → parseFieldDescriptor (TJ0 k).2.2.1 = some (tyJ0 k) := by decide +kernel
def RL : String := "FilmPlayerLaw"
abbrev cL_set : ByteArray := method_3_code
def yL_set : MethodName := ⟨RL, "set", "(LFilmPlayer;IIII)I"⟩
abbrev cL_arrive : ByteArray := method_4_code
def yL_arrive : MethodName := ⟨RL, "arrive", "(LFilmPlayer;I[J)I"⟩
abbrev cL_arriveRow : ByteArray := method_5_code
def yL_arriveRow : MethodName := ⟨RL, "arriveRow", "(LFilmPlayer;II[J)I"⟩
abbrev cL_advance : ByteArray := method_6_code
def yL_advance : MethodName := ⟨RL, "advance", "(LFilmPlayer;I[J)I"⟩
abbrev cL_has : ByteArray := method_7_code
def yL_has : MethodName := ⟨RL, "has", "(LFilmPlayer;I[J)I"⟩
abbrev cL_askedAt : ByteArray := method_8_code
def yL_askedAt : MethodName := ⟨RL, "askedAt", "(LFilmPlayer;I[J)I"⟩
abbrev cL_kindOf : ByteArray := method_9_code
def yL_kindOf : MethodName := ⟨RL, "kindOf", "(LFilmPlayer;I[J)I"⟩
abbrev cL_need : ByteArray := method_10_code
def yL_need : MethodName := ⟨RL, "need", "(LFilmPlayer;IZ[J)I"⟩
abbrev cL_isWhole : ByteArray := method_11_code
def yL_isWhole : MethodName := ⟨RL, "isWhole", "(LFilmPlayer;I[J)I"⟩
abbrev cL_fate : ByteArray := method_12_code
def yL_fate : MethodName := ⟨RL, "fate", "(LFilmPlayer;I[J)I"⟩
abbrev cL_law : ByteArray := code
def yL_law : MethodName := ⟨RL, "law", "([I)Z"⟩
def wsX0_init : List Cond := .code yX0_init cX0_init 2 none :: ([.methodLink RX0 3 objectInit, .instanceMethod objectInit, .code objectInit ⟨#[0xb1]⟩ 1 none, .arrayClass .int, .fieldLink RX0 9 "FilmPlayer$Film" "fates" "[I", .fieldLink RX0 15 "FilmPlayer$Film" "nextFrame" "I", .fieldLink RX0 19 "FilmPlayer$Film" "beginTick" "I", .fieldLink RX0 22 "FilmPlayer$Film" "turnTick" "I", .fieldLink RX0 25 "FilmPlayer$Film" "shownCount" "I", .fieldLink RX0 28 "FilmPlayer$Film" "store" "LFilmPlayer$Store;"] ++ wsX00)
def wsX0_kind : List Cond := .code yX0_kind cX0_kind 1 (some .int) :: ([])
def wsX0_needBefore : List Cond := .code yX0_needBefore cX0_needBefore 2 (some .int) :: ([.methodLink RX0 32 yX0_kind, .static yX0_kind, .initialized RX0, .code yX0_kind cX0_kind 1 (some .int)])
def wsX0_needBehind : List Cond := .code yX0_needBehind cX0_needBehind 1 (some .int) :: ([.methodLink RX0 32 yX0_kind, .static yX0_kind, .initialized RX0, .code yX0_kind cX0_kind 1 (some .int)])
def wsX2_holdsFrame : List Cond := .code yX2_holdsFrame cX2_holdsFrame 3 (some .boolean) :: ([.fieldLink RX2 9 "FilmPlayer$Store" "had" "[Z"] ++ wsX20)
def wsX0_canBegin : List Cond := .code yX0_canBegin cX0_canBegin 2 (some .boolean) :: ([.fieldLink RX0 28 "FilmPlayer$Film" "store" "LFilmPlayer$Store;", .methodLink RX0 44 yX2_holdsFrame, .instanceMethod yX2_holdsFrame, .selects RX2 yX2_holdsFrame yX2_holdsFrame, .initialized RX2, .code yX2_holdsFrame cX2_holdsFrame 3 (some .boolean), .fieldLink RX2 9 "FilmPlayer$Store" "had" "[Z"] ++ wsX00 ++ wsX20)
def wsX3_isFrame : List Cond := .code yX3_isFrame cX3_isFrame 1 (some .boolean) :: ([])
def wsX0_wasShown : List Cond := .code yX0_wasShown cX0_wasShown 2 (some .boolean) :: ([.fieldLink RX0 9 "FilmPlayer$Film" "fates" "[I", .static yX3_isFrame, .initialized RX3, .code yX3_isFrame cX3_isFrame 1 (some .boolean)] ++ wsX00)
def wsX0_isWholeIfAny : List Cond := .code yX0_isWholeIfAny cX0_isWholeIfAny 2 (some .boolean) :: ([.fieldLink RX0 28 "FilmPlayer$Film" "store" "LFilmPlayer$Store;", .methodLink RX0 44 yX2_holdsFrame, .instanceMethod yX2_holdsFrame, .selects RX2 yX2_holdsFrame yX2_holdsFrame, .initialized RX2, .code yX2_holdsFrame cX2_holdsFrame 3 (some .boolean), .fieldLink RX2 9 "FilmPlayer$Store" "had" "[Z"] ++ wsX00 ++ wsX20)
def wsX0_outcomeOf_r1 : List Cond := [Cond.fieldLink RX0 28 "FilmPlayer$Film" "store" "LFilmPlayer$Store;", Cond.methodLink RX0 44 yX2_holdsFrame, Cond.instanceMethod yX2_holdsFrame, Cond.selects RX2 yX2_holdsFrame yX2_holdsFrame, Cond.initialized RX2, Cond.code yX2_holdsFrame cX2_holdsFrame 3 (some .boolean), Cond.fieldLink RX2 9 "FilmPlayer$Store" "had" "[Z", Cond.methodLink RX0 60 yX0_needBefore, Cond.static yX0_needBefore, Cond.initialized RX0, Cond.code yX0_needBefore cX0_needBefore 2 (some .int), Cond.methodLink RX0 32 yX0_kind, Cond.static yX0_kind, Cond.code yX0_kind cX0_kind 1 (some .int), Cond.methodLink RX0 63 yX0_needBehind, Cond.static yX0_needBehind, Cond.code yX0_needBehind cX0_needBehind 1 (some .int), Cond.methodLink RX0 66 yX0_wasShown, Cond.instanceMethod yX0_wasShown, Cond.selects RX0 yX0_wasShown yX0_wasShown, Cond.code yX0_wasShown cX0_wasShown 2 (some .boolean), Cond.fieldLink RX0 9 "FilmPlayer$Film" "fates" "[I", Cond.static yX3_isFrame, Cond.initialized RX3]
def wsX0_outcomeOf_r2 : List Cond := [Cond.code yX3_isFrame cX3_isFrame 1 (some .boolean), Cond.methodLink RX0 69 yX0_isWholeIfAny, Cond.instanceMethod yX0_isWholeIfAny, Cond.selects RX0 yX0_isWholeIfAny yX0_isWholeIfAny, Cond.code yX0_isWholeIfAny cX0_isWholeIfAny 2 (some .boolean)]
def wsX0_outcomeOf : List Cond := .code yX0_outcomeOf cX0_outcomeOf 5 (some .int) :: ((wsX0_outcomeOf_r1 ++ wsX0_outcomeOf_r2) ++ wsX00 ++ wsX20)
def wsX0_wholeAhead : List Cond := .code yX0_wholeAhead cX0_wholeAhead 3 (some .int) :: ([.fieldLink RX0 15 "FilmPlayer$Film" "nextFrame" "I", .fieldLink RX0 28 "FilmPlayer$Film" "store" "LFilmPlayer$Store;", .methodLink RX0 44 yX2_holdsFrame, .instanceMethod yX2_holdsFrame, .selects RX2 yX2_holdsFrame yX2_holdsFrame, .initialized RX2, .code yX2_holdsFrame cX2_holdsFrame 3 (some .boolean), .fieldLink RX2 9 "FilmPlayer$Store" "had" "[Z"] ++ wsX00 ++ wsX20)
def wsX0_pace : List Cond := .code yX0_pace cX0_pace 2 (some .int) :: ([.methodLink RX0 72 yX0_wholeAhead, .instanceMethod yX0_wholeAhead, .selects RX0 yX0_wholeAhead yX0_wholeAhead, .initialized RX0, .code yX0_wholeAhead cX0_wholeAhead 3 (some .int), .fieldLink RX0 15 "FilmPlayer$Film" "nextFrame" "I", .fieldLink RX0 28 "FilmPlayer$Film" "store" "LFilmPlayer$Store;", .methodLink RX0 44 yX2_holdsFrame, .instanceMethod yX2_holdsFrame, .selects RX2 yX2_holdsFrame yX2_holdsFrame, .initialized RX2, .code yX2_holdsFrame cX2_holdsFrame 3 (some .boolean), .fieldLink RX2 9 "FilmPlayer$Store" "had" "[Z"] ++ wsX00 ++ wsX20)
def wsX0_giveTurn_r1 : List Cond := [Cond.fieldLink RX0 15 "FilmPlayer$Film" "nextFrame" "I", Cond.fieldLink RX0 9 "FilmPlayer$Film" "fates" "[I", Cond.fieldLink RX0 25 "FilmPlayer$Film" "shownCount" "I", Cond.fieldLink RX0 22 "FilmPlayer$Film" "turnTick" "I", Cond.static yX3_isFrame, Cond.initialized RX3, Cond.code yX3_isFrame cX3_isFrame 1 (some .boolean), Cond.methodLink RX0 53 yX0_outcomeOf, Cond.instanceMethod yX0_outcomeOf, Cond.selects RX0 yX0_outcomeOf yX0_outcomeOf, Cond.initialized RX0, Cond.code yX0_outcomeOf cX0_outcomeOf 5 (some .int), Cond.fieldLink RX0 28 "FilmPlayer$Film" "store" "LFilmPlayer$Store;", Cond.methodLink RX0 44 yX2_holdsFrame, Cond.instanceMethod yX2_holdsFrame, Cond.selects RX2 yX2_holdsFrame yX2_holdsFrame, Cond.initialized RX2, Cond.code yX2_holdsFrame cX2_holdsFrame 3 (some .boolean), Cond.fieldLink RX2 9 "FilmPlayer$Store" "had" "[Z", Cond.methodLink RX0 60 yX0_needBefore, Cond.static yX0_needBefore, Cond.code yX0_needBefore cX0_needBefore 2 (some .int), Cond.methodLink RX0 32 yX0_kind, Cond.static yX0_kind]
def wsX0_giveTurn_r2 : List Cond := [Cond.code yX0_kind cX0_kind 1 (some .int), Cond.methodLink RX0 63 yX0_needBehind, Cond.static yX0_needBehind, Cond.code yX0_needBehind cX0_needBehind 1 (some .int), Cond.methodLink RX0 66 yX0_wasShown, Cond.instanceMethod yX0_wasShown, Cond.selects RX0 yX0_wasShown yX0_wasShown, Cond.code yX0_wasShown cX0_wasShown 2 (some .boolean), Cond.methodLink RX0 69 yX0_isWholeIfAny, Cond.instanceMethod yX0_isWholeIfAny, Cond.selects RX0 yX0_isWholeIfAny yX0_isWholeIfAny, Cond.code yX0_isWholeIfAny cX0_isWholeIfAny 2 (some .boolean), Cond.methodLink RX0 56 yX0_pace, Cond.instanceMethod yX0_pace, Cond.selects RX0 yX0_pace yX0_pace, Cond.code yX0_pace cX0_pace 2 (some .int), Cond.methodLink RX0 72 yX0_wholeAhead, Cond.instanceMethod yX0_wholeAhead, Cond.selects RX0 yX0_wholeAhead yX0_wholeAhead, Cond.code yX0_wholeAhead cX0_wholeAhead 3 (some .int)]
def wsX0_giveTurn : List Cond := .code yX0_giveTurn cX0_giveTurn 3 none :: ((wsX0_giveTurn_r1 ++ wsX0_giveTurn_r2) ++ wsX00 ++ wsX20)
def wsX0_play_r1 : List Cond := [Cond.fieldLink RX0 19 "FilmPlayer$Film" "beginTick" "I", Cond.fieldLink RX0 22 "FilmPlayer$Film" "turnTick" "I", Cond.methodLink RX0 36 yX0_canBegin, Cond.instanceMethod yX0_canBegin, Cond.selects RX0 yX0_canBegin yX0_canBegin, Cond.initialized RX0, Cond.code yX0_canBegin cX0_canBegin 2 (some .boolean), Cond.fieldLink RX0 28 "FilmPlayer$Film" "store" "LFilmPlayer$Store;", Cond.methodLink RX0 44 yX2_holdsFrame, Cond.instanceMethod yX2_holdsFrame, Cond.selects RX2 yX2_holdsFrame yX2_holdsFrame, Cond.initialized RX2, Cond.code yX2_holdsFrame cX2_holdsFrame 3 (some .boolean), Cond.fieldLink RX2 9 "FilmPlayer$Store" "had" "[Z", Cond.methodLink RX0 40 yX0_giveTurn, Cond.instanceMethod yX0_giveTurn, Cond.selects RX0 yX0_giveTurn yX0_giveTurn, Cond.code yX0_giveTurn cX0_giveTurn 3 none, Cond.fieldLink RX0 15 "FilmPlayer$Film" "nextFrame" "I", Cond.fieldLink RX0 9 "FilmPlayer$Film" "fates" "[I", Cond.fieldLink RX0 25 "FilmPlayer$Film" "shownCount" "I", Cond.static yX3_isFrame, Cond.initialized RX3, Cond.code yX3_isFrame cX3_isFrame 1 (some .boolean)]
def wsX0_play_r2 : List Cond := [Cond.methodLink RX0 53 yX0_outcomeOf, Cond.instanceMethod yX0_outcomeOf, Cond.selects RX0 yX0_outcomeOf yX0_outcomeOf, Cond.code yX0_outcomeOf cX0_outcomeOf 5 (some .int), Cond.methodLink RX0 60 yX0_needBefore, Cond.static yX0_needBefore, Cond.code yX0_needBefore cX0_needBefore 2 (some .int), Cond.methodLink RX0 32 yX0_kind, Cond.static yX0_kind, Cond.code yX0_kind cX0_kind 1 (some .int), Cond.methodLink RX0 63 yX0_needBehind, Cond.static yX0_needBehind, Cond.code yX0_needBehind cX0_needBehind 1 (some .int), Cond.methodLink RX0 66 yX0_wasShown, Cond.instanceMethod yX0_wasShown, Cond.selects RX0 yX0_wasShown yX0_wasShown, Cond.code yX0_wasShown cX0_wasShown 2 (some .boolean), Cond.methodLink RX0 69 yX0_isWholeIfAny, Cond.instanceMethod yX0_isWholeIfAny, Cond.selects RX0 yX0_isWholeIfAny yX0_isWholeIfAny, Cond.code yX0_isWholeIfAny cX0_isWholeIfAny 2 (some .boolean), Cond.methodLink RX0 56 yX0_pace, Cond.instanceMethod yX0_pace, Cond.selects RX0 yX0_pace yX0_pace]
def wsX0_play_r3 : List Cond := [Cond.code yX0_pace cX0_pace 2 (some .int), Cond.methodLink RX0 72 yX0_wholeAhead, Cond.instanceMethod yX0_wholeAhead, Cond.selects RX0 yX0_wholeAhead yX0_wholeAhead, Cond.code yX0_wholeAhead cX0_wholeAhead 3 (some .int)]
def wsX0_play : List Cond := .code yX0_play cX0_play 2 none :: ((wsX0_play_r1 ++ (wsX0_play_r2 ++ wsX0_play_r3)) ++ wsX00 ++ wsX20)
def wsX0_isAnchorShowable : List Cond := .code yX0_isAnchorShowable cX0_isAnchorShowable 2 (some .boolean) :: ([.fieldLink RX0 28 "FilmPlayer$Film" "store" "LFilmPlayer$Store;", .methodLink RX0 44 yX2_holdsFrame, .instanceMethod yX2_holdsFrame, .selects RX2 yX2_holdsFrame yX2_holdsFrame, .initialized RX2, .code yX2_holdsFrame cX2_holdsFrame 3 (some .boolean), .fieldLink RX2 9 "FilmPlayer$Store" "had" "[Z", .methodLink RX0 60 yX0_needBefore, .static yX0_needBefore, .initialized RX0, .code yX0_needBefore cX0_needBefore 2 (some .int), .methodLink RX0 32 yX0_kind, .static yX0_kind, .code yX0_kind cX0_kind 1 (some .int), .methodLink RX0 69 yX0_isWholeIfAny, .instanceMethod yX0_isWholeIfAny, .selects RX0 yX0_isWholeIfAny yX0_isWholeIfAny, .code yX0_isWholeIfAny cX0_isWholeIfAny 2 (some .boolean)] ++ wsX00 ++ wsX20)
def wsX0_countShowable_r1 : List Cond := [Cond.fieldLink RX0 15 "FilmPlayer$Film" "nextFrame" "I", Cond.fieldLink RX0 28 "FilmPlayer$Film" "store" "LFilmPlayer$Store;", Cond.methodLink RX0 44 yX2_holdsFrame, Cond.instanceMethod yX2_holdsFrame, Cond.selects RX2 yX2_holdsFrame yX2_holdsFrame, Cond.initialized RX2, Cond.code yX2_holdsFrame cX2_holdsFrame 3 (some .boolean), Cond.fieldLink RX2 9 "FilmPlayer$Store" "had" "[Z", Cond.methodLink RX0 60 yX0_needBefore, Cond.static yX0_needBefore, Cond.initialized RX0, Cond.code yX0_needBefore cX0_needBefore 2 (some .int), Cond.methodLink RX0 32 yX0_kind, Cond.static yX0_kind, Cond.code yX0_kind cX0_kind 1 (some .int), Cond.methodLink RX0 75 yX0_isAnchorShowable, Cond.instanceMethod yX0_isAnchorShowable, Cond.selects RX0 yX0_isAnchorShowable yX0_isAnchorShowable, Cond.code yX0_isAnchorShowable cX0_isAnchorShowable 2 (some .boolean), Cond.methodLink RX0 69 yX0_isWholeIfAny, Cond.instanceMethod yX0_isWholeIfAny, Cond.selects RX0 yX0_isWholeIfAny yX0_isWholeIfAny, Cond.code yX0_isWholeIfAny cX0_isWholeIfAny 2 (some .boolean), Cond.methodLink RX0 63 yX0_needBehind]
def wsX0_countShowable_r2 : List Cond := [Cond.static yX0_needBehind, Cond.code yX0_needBehind cX0_needBehind 1 (some .int)]
def wsX0_countShowable : List Cond := .code yX0_countShowable cX0_countShowable 3 (some .int) :: ((wsX0_countShowable_r1 ++ wsX0_countShowable_r2) ++ wsX00 ++ wsX20)
def wsX0_delay : List Cond := .code yX0_delay cX0_delay 1 (some .int) :: ([.fieldLink RX0 22 "FilmPlayer$Film" "turnTick" "I", .fieldLink RX0 19 "FilmPlayer$Film" "beginTick" "I", .fieldLink RX0 15 "FilmPlayer$Film" "nextFrame" "I"] ++ wsX00)
def wsX1_init : List Cond := .code yX1_init cX1_init 1 none :: ([.methodLink RX1 3 objectInit, .instanceMethod objectInit, .code objectInit ⟨#[0xb1]⟩ 1 none, .arrayClass .int, .fieldLink RX1 9 "FilmPlayer$Ring" "packets" "[I", .fieldLink RX1 15 "FilmPlayer$Ring" "arrivals" "[I", .fieldLink RX1 18 "FilmPlayer$Ring" "count" "I", .fieldLink RX1 22 "FilmPlayer$Ring" "size" "I", .fieldLink RX1 25 "FilmPlayer$Ring" "join" "I", .fieldLink RX1 28 "FilmPlayer$Ring" "patience" "I", .fieldLink RX1 31 "FilmPlayer$Ring" "load" "I", .fieldLink RX1 34 "FilmPlayer$Ring" "polling" "Z", .fieldLink RX1 38 "FilmPlayer$Ring" "lostCount" "I"] ++ wsX10)
def wsX1_put : List Cond := .code yX1_put cX1_put 3 (some .boolean) :: ([.fieldLink RX1 18 "FilmPlayer$Ring" "count" "I", .fieldLink RX1 22 "FilmPlayer$Ring" "size" "I", .fieldLink RX1 38 "FilmPlayer$Ring" "lostCount" "I", .fieldLink RX1 9 "FilmPlayer$Ring" "packets" "[I", .fieldLink RX1 15 "FilmPlayer$Ring" "arrivals" "[I"] ++ wsX10)
def wsX1_loseAll : List Cond := .code yX1_loseAll cX1_loseAll 2 (some .int) :: ([.fieldLink RX1 18 "FilmPlayer$Ring" "count" "I", .fieldLink RX1 38 "FilmPlayer$Ring" "lostCount" "I", .fieldLink RX1 34 "FilmPlayer$Ring" "polling" "Z"] ++ wsX10)
def wsX1_isInterruptDue : List Cond := .code yX1_isInterruptDue cX1_isInterruptDue 2 (some .boolean) :: ([.fieldLink RX1 18 "FilmPlayer$Ring" "count" "I", .fieldLink RX1 25 "FilmPlayer$Ring" "join" "I", .fieldLink RX1 15 "FilmPlayer$Ring" "arrivals" "[I", .fieldLink RX1 28 "FilmPlayer$Ring" "patience" "I"] ++ wsX10)
def wsX1_chooseMany : List Cond := .code yX1_chooseMany cX1_chooseMany 3 (some .int) :: ([.fieldLink RX1 34 "FilmPlayer$Ring" "polling" "Z", .fieldLink RX1 18 "FilmPlayer$Ring" "count" "I", .methodLink RX1 41 Lib.Math.min.name, .static Lib.Math.min.name, .initialized "java/lang/Math", .code Lib.Math.min.name Lib.Math.min.code 2 (some .int), .fieldLink RX1 31 "FilmPlayer$Ring" "load" "I", .methodLink RX1 47 yX1_isInterruptDue, .instanceMethod yX1_isInterruptDue, .selects RX1 yX1_isInterruptDue yX1_isInterruptDue, .initialized RX1, .code yX1_isInterruptDue cX1_isInterruptDue 2 (some .boolean), .fieldLink RX1 25 "FilmPlayer$Ring" "join" "I", .fieldLink RX1 15 "FilmPlayer$Ring" "arrivals" "[I", .fieldLink RX1 28 "FilmPlayer$Ring" "patience" "I"] ++ wsX10)
def wsX1_packetAt : List Cond := .code yX1_packetAt cX1_packetAt 2 (some .int) :: ([.fieldLink RX1 18 "FilmPlayer$Ring" "count" "I", .fieldLink RX1 9 "FilmPlayer$Ring" "packets" "[I"] ++ wsX10)
def wsX1_removeFirst : List Cond := .code yX1_removeFirst cX1_removeFirst 5 none :: ([.methodLink RX1 51 Lib.Math.max.name, .static Lib.Math.max.name, .initialized "java/lang/Math", .code Lib.Math.max.name Lib.Math.max.code 2 (some .int), .fieldLink RX1 18 "FilmPlayer$Ring" "count" "I", .fieldLink RX1 9 "FilmPlayer$Ring" "packets" "[I", .fieldLink RX1 15 "FilmPlayer$Ring" "arrivals" "[I"] ++ wsX10)
def wsX2_init : List Cond := .code yX2_init cX2_init 1 none :: ([.methodLink RX2 3 objectInit, .instanceMethod objectInit, .code objectInit ⟨#[0xb1]⟩ 1 none, .arrayClass .boolean, .fieldLink RX2 9 "FilmPlayer$Store" "had" "[Z", .arrayClass .int, .fieldLink RX2 15 "FilmPlayer$Store" "askedRow" "[I", .fieldLink RX2 19 "FilmPlayer$Store" "askedCount" "I", .fieldLink RX2 23 "FilmPlayer$Store" "highest" "I", .fieldLink RX2 26 "FilmPlayer$Store" "lookedUpTo" "I"] ++ wsX20)
def wsX3_isPacket : List Cond := .code yX3_isPacket cX3_isPacket 1 (some .boolean) :: ([])
def wsX2_add : List Cond := .code yX2_add cX2_add 2 none :: ([.fieldLink RX2 9 "FilmPlayer$Store" "had" "[Z", .fieldLink RX2 23 "FilmPlayer$Store" "highest" "I", .methodLink RX2 33 Lib.Math.max.name, .static Lib.Math.max.name, .initialized "java/lang/Math", .code Lib.Math.max.name Lib.Math.max.code 2 (some .int), .static yX3_isPacket, .initialized RX3, .code yX3_isPacket cX3_isPacket 1 (some .boolean)] ++ wsX20)
def wsX2_holds : List Cond := .code yX2_holds cX2_holds 2 (some .boolean) :: ([.fieldLink RX2 9 "FilmPlayer$Store" "had" "[Z", .static yX3_isPacket, .initialized RX3, .code yX3_isPacket cX3_isPacket 1 (some .boolean)] ++ wsX20)
def wsX2_ask : List Cond := .code yX2_ask cX2_ask 2 none :: ([.fieldLink RX2 19 "FilmPlayer$Store" "askedCount" "I", .fieldLink RX2 15 "FilmPlayer$Store" "askedRow" "[I"] ++ wsX20)
def wsX2_askForMissing : List Cond := .code yX2_askForMissing cX2_askForMissing 3 none :: ([.fieldLink RX2 26 "FilmPlayer$Store" "lookedUpTo" "I", .fieldLink RX2 23 "FilmPlayer$Store" "highest" "I", .methodLink RX2 33 Lib.Math.max.name, .static Lib.Math.max.name, .initialized "java/lang/Math", .code Lib.Math.max.name Lib.Math.max.code 2 (some .int), .methodLink RX2 39 yX2_holds, .instanceMethod yX2_holds, .selects RX2 yX2_holds yX2_holds, .initialized RX2, .code yX2_holds cX2_holds 2 (some .boolean), .fieldLink RX2 9 "FilmPlayer$Store" "had" "[Z", .static yX3_isPacket, .initialized RX3, .code yX3_isPacket cX3_isPacket 1 (some .boolean), .methodLink RX2 42 yX2_ask, .instanceMethod yX2_ask, .selects RX2 yX2_ask yX2_ask, .code yX2_ask cX2_ask 2 none, .fieldLink RX2 19 "FilmPlayer$Store" "askedCount" "I", .fieldLink RX2 15 "FilmPlayer$Store" "askedRow" "[I"] ++ wsX20)
def wsX3_init_r1 : List Cond := [Cond.methodLink RX3 3 objectInit, Cond.instanceMethod objectInit, Cond.code objectInit ⟨#[0xb1]⟩ 1 none, Cond.classLink RX3 9 RX1, Cond.instantiable RX1 9, Cond.initialized RX1, Cond.fieldLink RX3 12 "FilmPlayer" "ring" "LFilmPlayer$Ring;", Cond.classLink RX3 16 RX2, Cond.instantiable RX2 5, Cond.initialized RX2, Cond.fieldLink RX3 19 "FilmPlayer" "store" "LFilmPlayer$Store;", Cond.classLink RX3 23 RX0, Cond.instantiable RX0 6, Cond.initialized RX0, Cond.fieldLink RX3 28 "FilmPlayer" "film" "LFilmPlayer$Film;", Cond.instanceMethod yX1_init, Cond.code yX1_init cX1_init 1 none, Cond.methodLink RX1 3 objectInit, Cond.arrayClass .int, Cond.fieldLink RX1 9 "FilmPlayer$Ring" "packets" "[I", Cond.fieldLink RX1 15 "FilmPlayer$Ring" "arrivals" "[I", Cond.fieldLink RX1 18 "FilmPlayer$Ring" "count" "I", Cond.fieldLink RX1 22 "FilmPlayer$Ring" "size" "I", Cond.fieldLink RX1 25 "FilmPlayer$Ring" "join" "I"]
def wsX3_init_r2 : List Cond := [Cond.fieldLink RX1 28 "FilmPlayer$Ring" "patience" "I", Cond.fieldLink RX1 31 "FilmPlayer$Ring" "load" "I", Cond.fieldLink RX1 34 "FilmPlayer$Ring" "polling" "Z", Cond.fieldLink RX1 38 "FilmPlayer$Ring" "lostCount" "I", Cond.instanceMethod yX2_init, Cond.code yX2_init cX2_init 1 none, Cond.methodLink RX2 3 objectInit, Cond.arrayClass .boolean, Cond.fieldLink RX2 9 "FilmPlayer$Store" "had" "[Z", Cond.fieldLink RX2 15 "FilmPlayer$Store" "askedRow" "[I", Cond.fieldLink RX2 19 "FilmPlayer$Store" "askedCount" "I", Cond.fieldLink RX2 23 "FilmPlayer$Store" "highest" "I", Cond.fieldLink RX2 26 "FilmPlayer$Store" "lookedUpTo" "I", Cond.methodLink RX3 25 yX0_init, Cond.instanceMethod yX0_init, Cond.code yX0_init cX0_init 2 none, Cond.methodLink RX0 3 objectInit, Cond.fieldLink RX0 9 "FilmPlayer$Film" "fates" "[I", Cond.fieldLink RX0 15 "FilmPlayer$Film" "nextFrame" "I", Cond.fieldLink RX0 19 "FilmPlayer$Film" "beginTick" "I", Cond.fieldLink RX0 22 "FilmPlayer$Film" "turnTick" "I", Cond.fieldLink RX0 25 "FilmPlayer$Film" "shownCount" "I", Cond.fieldLink RX0 28 "FilmPlayer$Film" "store" "LFilmPlayer$Store;"]
def wsX3_init : List Cond := .code yX3_init cX3_init 1 none :: ((wsX3_init_r1 ++ wsX3_init_r2) ++ wsX10 ++ wsX30 ++ wsX20 ++ wsX00)
def wsX3_isFromOneTo : List Cond := .code yX3_isFromOneTo cX3_isFromOneTo 2 (some .boolean) :: ([])
def wsX3_set : List Cond := .code yX3_set cX3_set 5 none :: ([.classLink RX3 36 "java/lang/IllegalArgumentException", .initialized "java/lang/IllegalArgumentException", .fieldLink RX3 12 "FilmPlayer" "ring" "LFilmPlayer$Ring;", .methodLink RX3 32 yX3_isFromOneTo, .static yX3_isFromOneTo, .initialized RX3, .code yX3_isFromOneTo cX3_isFromOneTo 2 (some .boolean)] ++ wsX30 ++ wsX10 ++ (vx_atS RX3 40 "java/lang/IllegalArgumentException" ["java/lang/RuntimeException", "java/lang/Exception"]).filter goodWord)
def wsX3_arrive : List Cond := .code yX3_arrive cX3_arrive 2 (some .int) :: ([.classLink RX3 60 "java/lang/IndexOutOfBoundsException", .initialized "java/lang/IndexOutOfBoundsException", .fieldLink RX3 12 "FilmPlayer" "ring" "LFilmPlayer$Ring;", .fieldLink RX3 65 "FilmPlayer" "now" "I", .methodLink RX3 56 yX3_isPacket, .static yX3_isPacket, .initialized RX3, .code yX3_isPacket cX3_isPacket 1 (some .boolean), .methodLink RX3 68 yX1_put, .instanceMethod yX1_put, .selects RX1 yX1_put yX1_put, .initialized RX1, .code yX1_put cX1_put 3 (some .boolean), .fieldLink RX1 18 "FilmPlayer$Ring" "count" "I", .fieldLink RX1 22 "FilmPlayer$Ring" "size" "I", .fieldLink RX1 38 "FilmPlayer$Ring" "lostCount" "I", .fieldLink RX1 9 "FilmPlayer$Ring" "packets" "[I", .fieldLink RX1 15 "FilmPlayer$Ring" "arrivals" "[I"] ++ wsX30 ++ wsX10 ++ (vx_atS RX3 64 "java/lang/IndexOutOfBoundsException" ["java/lang/RuntimeException", "java/lang/Exception"]).filter goodWord)
def wsX3_arriveRow : List Cond := .code yX3_arriveRow cX3_arriveRow 5 (some .int) :: ([.classLink RX3 60 "java/lang/IndexOutOfBoundsException", .initialized "java/lang/IndexOutOfBoundsException", .classLink RX3 36 "java/lang/IllegalArgumentException", .initialized "java/lang/IllegalArgumentException", .fieldLink RX3 12 "FilmPlayer" "ring" "LFilmPlayer$Ring;", .fieldLink RX3 65 "FilmPlayer" "now" "I", .methodLink RX3 56 yX3_isPacket, .static yX3_isPacket, .initialized RX3, .code yX3_isPacket cX3_isPacket 1 (some .boolean), .methodLink RX3 32 yX3_isFromOneTo, .static yX3_isFromOneTo, .code yX3_isFromOneTo cX3_isFromOneTo 2 (some .boolean), .methodLink RX3 68 yX1_put, .instanceMethod yX1_put, .selects RX1 yX1_put yX1_put, .initialized RX1, .code yX1_put cX1_put 3 (some .boolean), .fieldLink RX1 18 "FilmPlayer$Ring" "count" "I", .fieldLink RX1 22 "FilmPlayer$Ring" "size" "I", .fieldLink RX1 38 "FilmPlayer$Ring" "lostCount" "I", .fieldLink RX1 9 "FilmPlayer$Ring" "packets" "[I", .fieldLink RX1 15 "FilmPlayer$Ring" "arrivals" "[I"] ++ wsX30 ++ wsX10 ++ (vx_atS RX3 64 "java/lang/IndexOutOfBoundsException" ["java/lang/RuntimeException", "java/lang/Exception"]).filter goodWord ++ (vx_atS RX3 40 "java/lang/IllegalArgumentException" ["java/lang/RuntimeException", "java/lang/Exception"]).filter goodWord)
def wsX3_passTick_r1 : List Cond := [Cond.fieldLink RX3 12 "FilmPlayer" "ring" "LFilmPlayer$Ring;", Cond.fieldLink RX3 65 "FilmPlayer" "now" "I", Cond.fieldLink RX3 19 "FilmPlayer" "store" "LFilmPlayer$Store;", Cond.fieldLink RX3 28 "FilmPlayer" "film" "LFilmPlayer$Film;", Cond.methodLink RX3 150 yX1_chooseMany, Cond.instanceMethod yX1_chooseMany, Cond.selects RX1 yX1_chooseMany yX1_chooseMany, Cond.initialized RX1, Cond.code yX1_chooseMany cX1_chooseMany 3 (some .int), Cond.fieldLink RX1 34 "FilmPlayer$Ring" "polling" "Z", Cond.fieldLink RX1 18 "FilmPlayer$Ring" "count" "I", Cond.methodLink RX1 41 Lib.Math.min.name, Cond.static Lib.Math.min.name, Cond.initialized "java/lang/Math", Cond.code Lib.Math.min.name Lib.Math.min.code 2 (some .int), Cond.fieldLink RX1 31 "FilmPlayer$Ring" "load" "I", Cond.methodLink RX1 47 yX1_isInterruptDue, Cond.instanceMethod yX1_isInterruptDue, Cond.selects RX1 yX1_isInterruptDue yX1_isInterruptDue, Cond.code yX1_isInterruptDue cX1_isInterruptDue 2 (some .boolean), Cond.fieldLink RX1 25 "FilmPlayer$Ring" "join" "I", Cond.fieldLink RX1 15 "FilmPlayer$Ring" "arrivals" "[I", Cond.fieldLink RX1 28 "FilmPlayer$Ring" "patience" "I", Cond.methodLink RX3 153 yX1_packetAt]
def wsX3_passTick_r2 : List Cond := [Cond.instanceMethod yX1_packetAt, Cond.selects RX1 yX1_packetAt yX1_packetAt, Cond.code yX1_packetAt cX1_packetAt 2 (some .int), Cond.fieldLink RX1 9 "FilmPlayer$Ring" "packets" "[I", Cond.methodLink RX3 156 yX2_add, Cond.instanceMethod yX2_add, Cond.selects RX2 yX2_add yX2_add, Cond.initialized RX2, Cond.code yX2_add cX2_add 2 none, Cond.fieldLink RX2 9 "FilmPlayer$Store" "had" "[Z", Cond.fieldLink RX2 23 "FilmPlayer$Store" "highest" "I", Cond.methodLink RX2 33 Lib.Math.max.name, Cond.static Lib.Math.max.name, Cond.code Lib.Math.max.name Lib.Math.max.code 2 (some .int), Cond.static yX3_isPacket, Cond.initialized RX3, Cond.code yX3_isPacket cX3_isPacket 1 (some .boolean), Cond.methodLink RX3 160 yX1_removeFirst, Cond.instanceMethod yX1_removeFirst, Cond.selects RX1 yX1_removeFirst yX1_removeFirst, Cond.code yX1_removeFirst cX1_removeFirst 5 none, Cond.methodLink RX1 51 Lib.Math.max.name, Cond.methodLink RX3 163 yX2_askForMissing, Cond.instanceMethod yX2_askForMissing]
def wsX3_passTick_r3 : List Cond := [Cond.selects RX2 yX2_askForMissing yX2_askForMissing, Cond.code yX2_askForMissing cX2_askForMissing 3 none, Cond.fieldLink RX2 26 "FilmPlayer$Store" "lookedUpTo" "I", Cond.methodLink RX2 39 yX2_holds, Cond.instanceMethod yX2_holds, Cond.selects RX2 yX2_holds yX2_holds, Cond.code yX2_holds cX2_holds 2 (some .boolean), Cond.methodLink RX2 42 yX2_ask, Cond.instanceMethod yX2_ask, Cond.selects RX2 yX2_ask yX2_ask, Cond.code yX2_ask cX2_ask 2 none, Cond.fieldLink RX2 19 "FilmPlayer$Store" "askedCount" "I", Cond.fieldLink RX2 15 "FilmPlayer$Store" "askedRow" "[I", Cond.methodLink RX3 166 yX0_play, Cond.instanceMethod yX0_play, Cond.selects RX0 yX0_play yX0_play, Cond.initialized RX0, Cond.code yX0_play cX0_play 2 none, Cond.fieldLink RX0 19 "FilmPlayer$Film" "beginTick" "I", Cond.fieldLink RX0 22 "FilmPlayer$Film" "turnTick" "I", Cond.methodLink RX0 36 yX0_canBegin, Cond.instanceMethod yX0_canBegin, Cond.selects RX0 yX0_canBegin yX0_canBegin, Cond.code yX0_canBegin cX0_canBegin 2 (some .boolean)]
def wsX3_passTick_r4 : List Cond := [Cond.fieldLink RX0 28 "FilmPlayer$Film" "store" "LFilmPlayer$Store;", Cond.methodLink RX0 44 yX2_holdsFrame, Cond.instanceMethod yX2_holdsFrame, Cond.selects RX2 yX2_holdsFrame yX2_holdsFrame, Cond.code yX2_holdsFrame cX2_holdsFrame 3 (some .boolean), Cond.methodLink RX0 40 yX0_giveTurn, Cond.instanceMethod yX0_giveTurn, Cond.selects RX0 yX0_giveTurn yX0_giveTurn, Cond.code yX0_giveTurn cX0_giveTurn 3 none, Cond.fieldLink RX0 15 "FilmPlayer$Film" "nextFrame" "I", Cond.fieldLink RX0 9 "FilmPlayer$Film" "fates" "[I", Cond.fieldLink RX0 25 "FilmPlayer$Film" "shownCount" "I", Cond.static yX3_isFrame, Cond.code yX3_isFrame cX3_isFrame 1 (some .boolean), Cond.methodLink RX0 53 yX0_outcomeOf, Cond.instanceMethod yX0_outcomeOf, Cond.selects RX0 yX0_outcomeOf yX0_outcomeOf, Cond.code yX0_outcomeOf cX0_outcomeOf 5 (some .int), Cond.methodLink RX0 60 yX0_needBefore, Cond.static yX0_needBefore, Cond.code yX0_needBefore cX0_needBefore 2 (some .int), Cond.methodLink RX0 32 yX0_kind, Cond.static yX0_kind, Cond.code yX0_kind cX0_kind 1 (some .int)]
def wsX3_passTick_r5 : List Cond := [Cond.methodLink RX0 63 yX0_needBehind, Cond.static yX0_needBehind, Cond.code yX0_needBehind cX0_needBehind 1 (some .int), Cond.methodLink RX0 66 yX0_wasShown, Cond.instanceMethod yX0_wasShown, Cond.selects RX0 yX0_wasShown yX0_wasShown, Cond.code yX0_wasShown cX0_wasShown 2 (some .boolean), Cond.methodLink RX0 69 yX0_isWholeIfAny, Cond.instanceMethod yX0_isWholeIfAny, Cond.selects RX0 yX0_isWholeIfAny yX0_isWholeIfAny, Cond.code yX0_isWholeIfAny cX0_isWholeIfAny 2 (some .boolean), Cond.methodLink RX0 56 yX0_pace, Cond.instanceMethod yX0_pace, Cond.selects RX0 yX0_pace yX0_pace, Cond.code yX0_pace cX0_pace 2 (some .int), Cond.methodLink RX0 72 yX0_wholeAhead, Cond.instanceMethod yX0_wholeAhead, Cond.selects RX0 yX0_wholeAhead yX0_wholeAhead, Cond.code yX0_wholeAhead cX0_wholeAhead 3 (some .int)]
def wsX3_passTick : List Cond := .code yX3_passTick cX3_passTick 3 none :: ((wsX3_passTick_r1 ++ (wsX3_passTick_r2 ++ (wsX3_passTick_r3 ++ (wsX3_passTick_r4 ++ wsX3_passTick_r5)))) ++ wsX30 ++ wsX00 ++ wsX10 ++ wsX20)
def wsX3_advance_r1 : List Cond := [Cond.classLink RX3 36 "java/lang/IllegalArgumentException", Cond.initialized "java/lang/IllegalArgumentException", Cond.classLink RX3 80 "java/lang/IllegalStateException", Cond.initialized "java/lang/IllegalStateException", Cond.fieldLink RX3 65 "FilmPlayer" "now" "I", Cond.methodLink RX3 32 yX3_isFromOneTo, Cond.static yX3_isFromOneTo, Cond.initialized RX3, Cond.code yX3_isFromOneTo cX3_isFromOneTo 2 (some .boolean), Cond.methodLink RX3 85 yX3_passTick, Cond.instanceMethod yX3_passTick, Cond.selects RX3 yX3_passTick yX3_passTick, Cond.code yX3_passTick cX3_passTick 3 none, Cond.fieldLink RX3 12 "FilmPlayer" "ring" "LFilmPlayer$Ring;", Cond.fieldLink RX3 19 "FilmPlayer" "store" "LFilmPlayer$Store;", Cond.fieldLink RX3 28 "FilmPlayer" "film" "LFilmPlayer$Film;", Cond.methodLink RX3 150 yX1_chooseMany, Cond.instanceMethod yX1_chooseMany, Cond.selects RX1 yX1_chooseMany yX1_chooseMany, Cond.initialized RX1, Cond.code yX1_chooseMany cX1_chooseMany 3 (some .int), Cond.fieldLink RX1 34 "FilmPlayer$Ring" "polling" "Z", Cond.fieldLink RX1 18 "FilmPlayer$Ring" "count" "I", Cond.methodLink RX1 41 Lib.Math.min.name]
def wsX3_advance_r2 : List Cond := [Cond.static Lib.Math.min.name, Cond.initialized "java/lang/Math", Cond.code Lib.Math.min.name Lib.Math.min.code 2 (some .int), Cond.fieldLink RX1 31 "FilmPlayer$Ring" "load" "I", Cond.methodLink RX1 47 yX1_isInterruptDue, Cond.instanceMethod yX1_isInterruptDue, Cond.selects RX1 yX1_isInterruptDue yX1_isInterruptDue, Cond.code yX1_isInterruptDue cX1_isInterruptDue 2 (some .boolean), Cond.fieldLink RX1 25 "FilmPlayer$Ring" "join" "I", Cond.fieldLink RX1 15 "FilmPlayer$Ring" "arrivals" "[I", Cond.fieldLink RX1 28 "FilmPlayer$Ring" "patience" "I", Cond.methodLink RX3 153 yX1_packetAt, Cond.instanceMethod yX1_packetAt, Cond.selects RX1 yX1_packetAt yX1_packetAt, Cond.code yX1_packetAt cX1_packetAt 2 (some .int), Cond.fieldLink RX1 9 "FilmPlayer$Ring" "packets" "[I", Cond.methodLink RX3 156 yX2_add, Cond.instanceMethod yX2_add, Cond.selects RX2 yX2_add yX2_add, Cond.initialized RX2, Cond.code yX2_add cX2_add 2 none, Cond.fieldLink RX2 9 "FilmPlayer$Store" "had" "[Z", Cond.fieldLink RX2 23 "FilmPlayer$Store" "highest" "I", Cond.methodLink RX2 33 Lib.Math.max.name]
def wsX3_advance_r3 : List Cond := [Cond.static Lib.Math.max.name, Cond.code Lib.Math.max.name Lib.Math.max.code 2 (some .int), Cond.static yX3_isPacket, Cond.code yX3_isPacket cX3_isPacket 1 (some .boolean), Cond.methodLink RX3 160 yX1_removeFirst, Cond.instanceMethod yX1_removeFirst, Cond.selects RX1 yX1_removeFirst yX1_removeFirst, Cond.code yX1_removeFirst cX1_removeFirst 5 none, Cond.methodLink RX1 51 Lib.Math.max.name, Cond.methodLink RX3 163 yX2_askForMissing, Cond.instanceMethod yX2_askForMissing, Cond.selects RX2 yX2_askForMissing yX2_askForMissing, Cond.code yX2_askForMissing cX2_askForMissing 3 none, Cond.fieldLink RX2 26 "FilmPlayer$Store" "lookedUpTo" "I", Cond.methodLink RX2 39 yX2_holds, Cond.instanceMethod yX2_holds, Cond.selects RX2 yX2_holds yX2_holds, Cond.code yX2_holds cX2_holds 2 (some .boolean), Cond.methodLink RX2 42 yX2_ask, Cond.instanceMethod yX2_ask, Cond.selects RX2 yX2_ask yX2_ask, Cond.code yX2_ask cX2_ask 2 none, Cond.fieldLink RX2 19 "FilmPlayer$Store" "askedCount" "I", Cond.fieldLink RX2 15 "FilmPlayer$Store" "askedRow" "[I"]
def wsX3_advance_r4 : List Cond := [Cond.methodLink RX3 166 yX0_play, Cond.instanceMethod yX0_play, Cond.selects RX0 yX0_play yX0_play, Cond.initialized RX0, Cond.code yX0_play cX0_play 2 none, Cond.fieldLink RX0 19 "FilmPlayer$Film" "beginTick" "I", Cond.fieldLink RX0 22 "FilmPlayer$Film" "turnTick" "I", Cond.methodLink RX0 36 yX0_canBegin, Cond.instanceMethod yX0_canBegin, Cond.selects RX0 yX0_canBegin yX0_canBegin, Cond.code yX0_canBegin cX0_canBegin 2 (some .boolean), Cond.fieldLink RX0 28 "FilmPlayer$Film" "store" "LFilmPlayer$Store;", Cond.methodLink RX0 44 yX2_holdsFrame, Cond.instanceMethod yX2_holdsFrame, Cond.selects RX2 yX2_holdsFrame yX2_holdsFrame, Cond.code yX2_holdsFrame cX2_holdsFrame 3 (some .boolean), Cond.methodLink RX0 40 yX0_giveTurn, Cond.instanceMethod yX0_giveTurn, Cond.selects RX0 yX0_giveTurn yX0_giveTurn, Cond.code yX0_giveTurn cX0_giveTurn 3 none, Cond.fieldLink RX0 15 "FilmPlayer$Film" "nextFrame" "I", Cond.fieldLink RX0 9 "FilmPlayer$Film" "fates" "[I", Cond.fieldLink RX0 25 "FilmPlayer$Film" "shownCount" "I", Cond.static yX3_isFrame]
def wsX3_advance_r5 : List Cond := [Cond.code yX3_isFrame cX3_isFrame 1 (some .boolean), Cond.methodLink RX0 53 yX0_outcomeOf, Cond.instanceMethod yX0_outcomeOf, Cond.selects RX0 yX0_outcomeOf yX0_outcomeOf, Cond.code yX0_outcomeOf cX0_outcomeOf 5 (some .int), Cond.methodLink RX0 60 yX0_needBefore, Cond.static yX0_needBefore, Cond.code yX0_needBefore cX0_needBefore 2 (some .int), Cond.methodLink RX0 32 yX0_kind, Cond.static yX0_kind, Cond.code yX0_kind cX0_kind 1 (some .int), Cond.methodLink RX0 63 yX0_needBehind, Cond.static yX0_needBehind, Cond.code yX0_needBehind cX0_needBehind 1 (some .int), Cond.methodLink RX0 66 yX0_wasShown, Cond.instanceMethod yX0_wasShown, Cond.selects RX0 yX0_wasShown yX0_wasShown, Cond.code yX0_wasShown cX0_wasShown 2 (some .boolean), Cond.methodLink RX0 69 yX0_isWholeIfAny, Cond.instanceMethod yX0_isWholeIfAny, Cond.selects RX0 yX0_isWholeIfAny yX0_isWholeIfAny, Cond.code yX0_isWholeIfAny cX0_isWholeIfAny 2 (some .boolean), Cond.methodLink RX0 56 yX0_pace, Cond.instanceMethod yX0_pace]
def wsX3_advance_r6 : List Cond := [Cond.selects RX0 yX0_pace yX0_pace, Cond.code yX0_pace cX0_pace 2 (some .int), Cond.methodLink RX0 72 yX0_wholeAhead, Cond.instanceMethod yX0_wholeAhead, Cond.selects RX0 yX0_wholeAhead yX0_wholeAhead, Cond.code yX0_wholeAhead cX0_wholeAhead 3 (some .int)]
def wsX3_advance : List Cond := .code yX3_advance cX3_advance 3 (some .int) :: ((wsX3_advance_r1 ++ (wsX3_advance_r2 ++ (wsX3_advance_r3 ++ (wsX3_advance_r4 ++ (wsX3_advance_r5 ++ wsX3_advance_r6))))) ++ wsX30 ++ wsX00 ++ wsX10 ++ wsX20 ++ (vx_atS RX3 40 "java/lang/IllegalArgumentException" ["java/lang/RuntimeException", "java/lang/Exception"]).filter goodWord ++ (vx_atS RX3 84 "java/lang/IllegalStateException" ["java/lang/RuntimeException", "java/lang/Exception"]).filter goodWord)
def wsX3_reset : List Cond := .code yX3_reset cX3_reset 1 (some .int) :: ([.fieldLink RX3 12 "FilmPlayer" "ring" "LFilmPlayer$Ring;", .methodLink RX3 88 yX1_loseAll, .instanceMethod yX1_loseAll, .selects RX1 yX1_loseAll yX1_loseAll, .initialized RX1, .code yX1_loseAll cX1_loseAll 2 (some .int), .fieldLink RX1 18 "FilmPlayer$Ring" "count" "I", .fieldLink RX1 38 "FilmPlayer$Ring" "lostCount" "I", .fieldLink RX1 34 "FilmPlayer$Ring" "polling" "Z"] ++ wsX30 ++ wsX10)
def wsX3_tick : List Cond := .code yX3_tick cX3_tick 1 (some .int) :: ([.fieldLink RX3 65 "FilmPlayer" "now" "I"] ++ wsX30)
def wsX3_waiting : List Cond := .code yX3_waiting cX3_waiting 1 (some .int) :: ([.fieldLink RX3 12 "FilmPlayer" "ring" "LFilmPlayer$Ring;"] ++ wsX30 ++ wsX10)
def wsX3_lost : List Cond := .code yX3_lost cX3_lost 1 (some .int) :: ([.fieldLink RX3 12 "FilmPlayer" "ring" "LFilmPlayer$Ring;"] ++ wsX30 ++ wsX10)
def wsX3_isPolled : List Cond := .code yX3_isPolled cX3_isPolled 1 (some .boolean) :: ([.fieldLink RX3 12 "FilmPlayer" "ring" "LFilmPlayer$Ring;"] ++ wsX30 ++ wsX10)
def wsX3_has : List Cond := .code yX3_has cX3_has 2 (some .boolean) :: ([.classLink RX3 60 "java/lang/IndexOutOfBoundsException", .initialized "java/lang/IndexOutOfBoundsException", .fieldLink RX3 19 "FilmPlayer" "store" "LFilmPlayer$Store;", .methodLink RX3 56 yX3_isPacket, .static yX3_isPacket, .initialized RX3, .code yX3_isPacket cX3_isPacket 1 (some .boolean), .methodLink RX3 99 yX2_holds, .instanceMethod yX2_holds, .selects RX2 yX2_holds yX2_holds, .initialized RX2, .code yX2_holds cX2_holds 2 (some .boolean), .fieldLink RX2 9 "FilmPlayer$Store" "had" "[Z"] ++ wsX30 ++ wsX20 ++ (vx_atS RX3 64 "java/lang/IndexOutOfBoundsException" ["java/lang/RuntimeException", "java/lang/Exception"]).filter goodWord)
def wsX3_askedAt : List Cond := .code yX3_askedAt cX3_askedAt 2 (some .int) :: ([.classLink RX3 60 "java/lang/IndexOutOfBoundsException", .initialized "java/lang/IndexOutOfBoundsException", .fieldLink RX3 19 "FilmPlayer" "store" "LFilmPlayer$Store;"] ++ wsX30 ++ wsX20 ++ (vx_atS RX3 64 "java/lang/IndexOutOfBoundsException" ["java/lang/RuntimeException", "java/lang/Exception"]).filter goodWord)
def wsX3_asked : List Cond := .code yX3_asked cX3_asked 1 (some .int) :: ([.fieldLink RX3 19 "FilmPlayer" "store" "LFilmPlayer$Store;"] ++ wsX30 ++ wsX20)
def wsX3_kindOf : List Cond := .code yX3_kindOf cX3_kindOf 2 (some .int) :: ([.classLink RX3 60 "java/lang/IndexOutOfBoundsException", .initialized "java/lang/IndexOutOfBoundsException", .methodLink RX3 111 yX3_isFrame, .static yX3_isFrame, .initialized RX3, .code yX3_isFrame cX3_isFrame 1 (some .boolean), .methodLink RX3 116 yX0_kind, .static yX0_kind, .initialized RX0, .code yX0_kind cX0_kind 1 (some .int)] ++ (vx_atS RX3 64 "java/lang/IndexOutOfBoundsException" ["java/lang/RuntimeException", "java/lang/Exception"]).filter goodWord)
def wsX3_need : List Cond := .code yX3_need cX3_need 3 (some .int) :: ([.classLink RX3 60 "java/lang/IndexOutOfBoundsException", .initialized "java/lang/IndexOutOfBoundsException", .methodLink RX3 111 yX3_isFrame, .static yX3_isFrame, .initialized RX3, .code yX3_isFrame cX3_isFrame 1 (some .boolean), .methodLink RX3 120 yX0_needBehind, .static yX0_needBehind, .initialized RX0, .code yX0_needBehind cX0_needBehind 1 (some .int), .methodLink RX0 32 yX0_kind, .static yX0_kind, .code yX0_kind cX0_kind 1 (some .int), .methodLink RX3 123 yX0_needBefore, .static yX0_needBefore, .code yX0_needBefore cX0_needBefore 2 (some .int)] ++ (vx_atS RX3 64 "java/lang/IndexOutOfBoundsException" ["java/lang/RuntimeException", "java/lang/Exception"]).filter goodWord)
def wsX3_isWhole : List Cond := .code yX3_isWhole cX3_isWhole 2 (some .boolean) :: ([.classLink RX3 60 "java/lang/IndexOutOfBoundsException", .initialized "java/lang/IndexOutOfBoundsException", .fieldLink RX3 19 "FilmPlayer" "store" "LFilmPlayer$Store;", .methodLink RX3 111 yX3_isFrame, .static yX3_isFrame, .initialized RX3, .code yX3_isFrame cX3_isFrame 1 (some .boolean), .methodLink RX3 126 yX2_holdsFrame, .instanceMethod yX2_holdsFrame, .selects RX2 yX2_holdsFrame yX2_holdsFrame, .initialized RX2, .code yX2_holdsFrame cX2_holdsFrame 3 (some .boolean), .fieldLink RX2 9 "FilmPlayer$Store" "had" "[Z"] ++ wsX30 ++ wsX20 ++ (vx_atS RX3 64 "java/lang/IndexOutOfBoundsException" ["java/lang/RuntimeException", "java/lang/Exception"]).filter goodWord)
def wsX3_fate : List Cond := .code yX3_fate cX3_fate 2 (some .int) :: ([.classLink RX3 60 "java/lang/IndexOutOfBoundsException", .initialized "java/lang/IndexOutOfBoundsException", .fieldLink RX3 28 "FilmPlayer" "film" "LFilmPlayer$Film;", .methodLink RX3 111 yX3_isFrame, .static yX3_isFrame, .initialized RX3, .code yX3_isFrame cX3_isFrame 1 (some .boolean)] ++ wsX30 ++ wsX00 ++ (vx_atS RX3 64 "java/lang/IndexOutOfBoundsException" ["java/lang/RuntimeException", "java/lang/Exception"]).filter goodWord)
def wsX3_next : List Cond := .code yX3_next cX3_next 1 (some .int) :: ([.fieldLink RX3 28 "FilmPlayer" "film" "LFilmPlayer$Film;"] ++ wsX30 ++ wsX00)
def wsX3_turn : List Cond := .code yX3_turn cX3_turn 1 (some .int) :: ([.fieldLink RX3 28 "FilmPlayer" "film" "LFilmPlayer$Film;"] ++ wsX30 ++ wsX00)
def wsX3_fill : List Cond := .code yX3_fill cX3_fill 1 (some .int) :: ([.fieldLink RX3 28 "FilmPlayer" "film" "LFilmPlayer$Film;", .methodLink RX3 138 yX0_wholeAhead, .instanceMethod yX0_wholeAhead, .selects RX0 yX0_wholeAhead yX0_wholeAhead, .initialized RX0, .code yX0_wholeAhead cX0_wholeAhead 3 (some .int), .fieldLink RX0 15 "FilmPlayer$Film" "nextFrame" "I", .fieldLink RX0 28 "FilmPlayer$Film" "store" "LFilmPlayer$Store;", .methodLink RX0 44 yX2_holdsFrame, .instanceMethod yX2_holdsFrame, .selects RX2 yX2_holdsFrame yX2_holdsFrame, .initialized RX2, .code yX2_holdsFrame cX2_holdsFrame 3 (some .boolean), .fieldLink RX2 9 "FilmPlayer$Store" "had" "[Z"] ++ wsX30 ++ wsX00 ++ wsX20)
def wsX3_shown : List Cond := .code yX3_shown cX3_shown 1 (some .int) :: ([.fieldLink RX3 28 "FilmPlayer" "film" "LFilmPlayer$Film;"] ++ wsX30 ++ wsX00)
def wsX3_couldBe_r1 : List Cond := [Cond.fieldLink RX3 28 "FilmPlayer" "film" "LFilmPlayer$Film;", Cond.methodLink RX3 144 yX0_countShowable, Cond.instanceMethod yX0_countShowable, Cond.selects RX0 yX0_countShowable yX0_countShowable, Cond.initialized RX0, Cond.code yX0_countShowable cX0_countShowable 3 (some .int), Cond.fieldLink RX0 15 "FilmPlayer$Film" "nextFrame" "I", Cond.fieldLink RX0 28 "FilmPlayer$Film" "store" "LFilmPlayer$Store;", Cond.methodLink RX0 44 yX2_holdsFrame, Cond.instanceMethod yX2_holdsFrame, Cond.selects RX2 yX2_holdsFrame yX2_holdsFrame, Cond.initialized RX2, Cond.code yX2_holdsFrame cX2_holdsFrame 3 (some .boolean), Cond.fieldLink RX2 9 "FilmPlayer$Store" "had" "[Z", Cond.methodLink RX0 60 yX0_needBefore, Cond.static yX0_needBefore, Cond.code yX0_needBefore cX0_needBefore 2 (some .int), Cond.methodLink RX0 32 yX0_kind, Cond.static yX0_kind, Cond.code yX0_kind cX0_kind 1 (some .int), Cond.methodLink RX0 75 yX0_isAnchorShowable, Cond.instanceMethod yX0_isAnchorShowable, Cond.selects RX0 yX0_isAnchorShowable yX0_isAnchorShowable, Cond.code yX0_isAnchorShowable cX0_isAnchorShowable 2 (some .boolean)]
def wsX3_couldBe_r2 : List Cond := [Cond.methodLink RX0 69 yX0_isWholeIfAny, Cond.instanceMethod yX0_isWholeIfAny, Cond.selects RX0 yX0_isWholeIfAny yX0_isWholeIfAny, Cond.code yX0_isWholeIfAny cX0_isWholeIfAny 2 (some .boolean), Cond.methodLink RX0 63 yX0_needBehind, Cond.static yX0_needBehind, Cond.code yX0_needBehind cX0_needBehind 1 (some .int)]
def wsX3_couldBe : List Cond := .code yX3_couldBe cX3_couldBe 1 (some .int) :: ((wsX3_couldBe_r1 ++ wsX3_couldBe_r2) ++ wsX30 ++ wsX00 ++ wsX20)
def wsX3_gap : List Cond := .code yX3_gap cX3_gap 1 (some .int) :: ([.fieldLink RX3 28 "FilmPlayer" "film" "LFilmPlayer$Film;", .methodLink RX3 147 yX0_delay, .instanceMethod yX0_delay, .selects RX0 yX0_delay yX0_delay, .initialized RX0, .code yX0_delay cX0_delay 1 (some .int), .fieldLink RX0 22 "FilmPlayer$Film" "turnTick" "I", .fieldLink RX0 19 "FilmPlayer$Film" "beginTick" "I", .fieldLink RX0 15 "FilmPlayer$Film" "nextFrame" "I"] ++ wsX30 ++ wsX00)
def wsX4_init : List Cond := .code yX4_init cX4_init 1 none :: ([.methodLink RX4 1 objectInit, .instanceMethod objectInit, .code objectInit ⟨#[0xb1]⟩ 1 none, .fieldLink RX4 7 "FilmPlayerModel" "size" "I", .fieldLink RX4 13 "FilmPlayerModel" "join" "I", .fieldLink RX4 16 "FilmPlayerModel" "patience" "I", .fieldLink RX4 19 "FilmPlayerModel" "load" "I", .arrayClass .int, .fieldLink RX4 22 "FilmPlayerModel" "ring" "[I", .fieldLink RX4 26 "FilmPlayerModel" "came" "[I", .arrayClass .boolean, .fieldLink RX4 29 "FilmPlayerModel" "has" "[Z", .fieldLink RX4 33 "FilmPlayerModel" "wasAsked" "[Z", .fieldLink RX4 36 "FilmPlayerModel" "asked" "[I", .fieldLink RX4 39 "FilmPlayerModel" "fate" "[I", .fieldLink RX4 42 "FilmPlayerModel" "could" "[Z"] ++ wsX40)
def wsX4_thrown : List Cond := .code yX4_thrown cX4_thrown 1 (some .int) :: ([.fieldLink RX4 45 "FilmPlayerModel" "thrown" "I"] ++ wsX40)
def wsX4_fails : List Cond := .code yX4_fails cX4_fails 2 (some .int) :: ([.fieldLink RX4 45 "FilmPlayerModel" "thrown" "I"] ++ wsX40)
def wsX4_asks : List Cond := .code yX4_asks cX4_asks 2 (some .boolean) :: ([.fieldLink RX4 45 "FilmPlayerModel" "thrown" "I"] ++ wsX40)
def wsX4_in : List Cond := .code yX4_in cX4_in 3 (some .boolean) :: ([])
def wsX4_set : List Cond := .code yX4_set cX4_set 5 none :: ([.fieldLink RX4 7 "FilmPlayerModel" "size" "I", .fieldLink RX4 13 "FilmPlayerModel" "join" "I", .fieldLink RX4 16 "FilmPlayerModel" "patience" "I", .fieldLink RX4 19 "FilmPlayerModel" "load" "I", .methodLink RX4 48 yX4_in, .static yX4_in, .initialized RX4, .code yX4_in cX4_in 3 (some .boolean), .methodLink RX4 52 yX4_asks, .instanceMethod yX4_asks, .selects RX4 yX4_asks yX4_asks, .code yX4_asks cX4_asks 2 (some .boolean), .fieldLink RX4 45 "FilmPlayerModel" "thrown" "I"] ++ wsX40)
def wsX4_comes : List Cond := .code yX4_comes cX4_comes 3 (some .boolean) :: ([.fieldLink RX4 56 "FilmPlayerModel" "waiting" "I", .fieldLink RX4 7 "FilmPlayerModel" "size" "I", .fieldLink RX4 59 "FilmPlayerModel" "lost" "I", .fieldLink RX4 62 "FilmPlayerModel" "head" "I", .fieldLink RX4 22 "FilmPlayerModel" "ring" "[I", .fieldLink RX4 26 "FilmPlayerModel" "came" "[I", .fieldLink RX4 65 "FilmPlayerModel" "tick" "I"] ++ wsX40)
def wsX4_arrive : List Cond := .code yX4_arrive cX4_arrive 2 (some .int) :: ([.fieldLink RX4 56 "FilmPlayerModel" "waiting" "I", .methodLink RX4 48 yX4_in, .static yX4_in, .initialized RX4, .code yX4_in cX4_in 3 (some .boolean), .methodLink RX4 52 yX4_asks, .instanceMethod yX4_asks, .selects RX4 yX4_asks yX4_asks, .code yX4_asks cX4_asks 2 (some .boolean), .fieldLink RX4 45 "FilmPlayerModel" "thrown" "I", .methodLink RX4 68 yX4_comes, .instanceMethod yX4_comes, .selects RX4 yX4_comes yX4_comes, .code yX4_comes cX4_comes 3 (some .boolean), .fieldLink RX4 7 "FilmPlayerModel" "size" "I", .fieldLink RX4 59 "FilmPlayerModel" "lost" "I", .fieldLink RX4 62 "FilmPlayerModel" "head" "I", .fieldLink RX4 22 "FilmPlayerModel" "ring" "[I", .fieldLink RX4 26 "FilmPlayerModel" "came" "[I", .fieldLink RX4 65 "FilmPlayerModel" "tick" "I"] ++ wsX40)
def wsX4_arriveRow : List Cond := .code yX4_arriveRow cX4_arriveRow 5 (some .int) :: ([.methodLink RX4 48 yX4_in, .static yX4_in, .initialized RX4, .code yX4_in cX4_in 3 (some .boolean), .methodLink RX4 52 yX4_asks, .instanceMethod yX4_asks, .selects RX4 yX4_asks yX4_asks, .code yX4_asks cX4_asks 2 (some .boolean), .fieldLink RX4 45 "FilmPlayerModel" "thrown" "I", .methodLink RX4 72 yX4_fails, .instanceMethod yX4_fails, .selects RX4 yX4_fails yX4_fails, .code yX4_fails cX4_fails 2 (some .int), .methodLink RX4 68 yX4_comes, .instanceMethod yX4_comes, .selects RX4 yX4_comes yX4_comes, .code yX4_comes cX4_comes 3 (some .boolean), .fieldLink RX4 56 "FilmPlayerModel" "waiting" "I", .fieldLink RX4 7 "FilmPlayerModel" "size" "I", .fieldLink RX4 59 "FilmPlayerModel" "lost" "I", .fieldLink RX4 62 "FilmPlayerModel" "head" "I", .fieldLink RX4 22 "FilmPlayerModel" "ring" "[I", .fieldLink RX4 26 "FilmPlayerModel" "came" "[I", .fieldLink RX4 65 "FilmPlayerModel" "tick" "I"] ++ wsX40)
def wsX4_takes : List Cond := .code yX4_takes cX4_takes 3 none :: ([.fieldLink RX4 56 "FilmPlayerModel" "waiting" "I", .fieldLink RX4 29 "FilmPlayerModel" "has" "[Z", .fieldLink RX4 22 "FilmPlayerModel" "ring" "[I", .fieldLink RX4 62 "FilmPlayerModel" "head" "I"] ++ wsX40)
def wsX4_drives : List Cond := .code yX4_drives cX4_drives 1 none :: ([.fieldLink RX4 76 "FilmPlayerModel" "isPolled" "Z", .fieldLink RX4 56 "FilmPlayerModel" "waiting" "I", .fieldLink RX4 13 "FilmPlayerModel" "join" "I", .fieldLink RX4 65 "FilmPlayerModel" "tick" "I", .fieldLink RX4 26 "FilmPlayerModel" "came" "[I", .fieldLink RX4 62 "FilmPlayerModel" "head" "I", .fieldLink RX4 16 "FilmPlayerModel" "patience" "I", .fieldLink RX4 19 "FilmPlayerModel" "load" "I", .methodLink RX4 80 yX4_takes, .instanceMethod yX4_takes, .selects RX4 yX4_takes yX4_takes, .initialized RX4, .code yX4_takes cX4_takes 3 none, .fieldLink RX4 29 "FilmPlayerModel" "has" "[Z", .fieldLink RX4 22 "FilmPlayerModel" "ring" "[I"] ++ wsX40)
def wsX4_asksFor : List Cond := .code yX4_asksFor cX4_asksFor 3 none :: ([.fieldLink RX4 29 "FilmPlayerModel" "has" "[Z", .fieldLink RX4 33 "FilmPlayerModel" "wasAsked" "[Z", .fieldLink RX4 84 "FilmPlayerModel" "next" "I", .fieldLink RX4 36 "FilmPlayerModel" "asked" "[I", .fieldLink RX4 87 "FilmPlayerModel" "askedFor" "I"] ++ wsX40)
def wsX4_whole : List Cond := .code yX4_whole cX4_whole 2 (some .boolean) :: ([.fieldLink RX4 29 "FilmPlayerModel" "has" "[Z"] ++ wsX40)
def wsX4_kind : List Cond := .code yX4_kind cX4_kind 1 (some .int) :: ([])
def wsX4_before : List Cond := .code yX4_before cX4_before 2 (some .int) :: ([.methodLink RX4 90 yX4_kind, .static yX4_kind, .initialized RX4, .code yX4_kind cX4_kind 1 (some .int)])
def wsX4_behind : List Cond := .code yX4_behind cX4_behind 2 (some .int) :: ([.methodLink RX4 90 yX4_kind, .static yX4_kind, .initialized RX4, .code yX4_kind cX4_kind 1 (some .int)])
def wsX4_fillNow : List Cond := .code yX4_fillNow cX4_fillNow 2 (some .int) :: ([.fieldLink RX4 84 "FilmPlayerModel" "next" "I", .methodLink RX4 93 yX4_whole, .instanceMethod yX4_whole, .selects RX4 yX4_whole yX4_whole, .initialized RX4, .code yX4_whole cX4_whole 2 (some .boolean), .fieldLink RX4 29 "FilmPlayerModel" "has" "[Z"] ++ wsX40)
def wsX4_turns : List Cond := .code yX4_turns cX4_turns 4 none :: ([.fieldLink RX4 84 "FilmPlayerModel" "next" "I", .fieldLink RX4 39 "FilmPlayerModel" "fate" "[I", .fieldLink RX4 65 "FilmPlayerModel" "tick" "I", .fieldLink RX4 106 "FilmPlayerModel" "turn" "I", .methodLink RX4 96 yX4_before, .static yX4_before, .initialized RX4, .code yX4_before cX4_before 2 (some .int), .methodLink RX4 90 yX4_kind, .static yX4_kind, .code yX4_kind cX4_kind 1 (some .int), .methodLink RX4 99 yX4_behind, .static yX4_behind, .code yX4_behind cX4_behind 2 (some .int), .methodLink RX4 93 yX4_whole, .instanceMethod yX4_whole, .selects RX4 yX4_whole yX4_whole, .code yX4_whole cX4_whole 2 (some .boolean), .fieldLink RX4 29 "FilmPlayerModel" "has" "[Z", .methodLink RX4 102 yX4_fillNow, .instanceMethod yX4_fillNow, .selects RX4 yX4_fillNow yX4_fillNow, .code yX4_fillNow cX4_fillNow 2 (some .int)] ++ wsX40)
def wsX4_passes_r1 : List Cond := [Cond.fieldLink RX4 115 "FilmPlayerModel" "hasBegun" "Z", Cond.fieldLink RX4 65 "FilmPlayerModel" "tick" "I", Cond.fieldLink RX4 118 "FilmPlayerModel" "begun" "I", Cond.fieldLink RX4 84 "FilmPlayerModel" "next" "I", Cond.fieldLink RX4 106 "FilmPlayerModel" "turn" "I", Cond.methodLink RX4 109 yX4_drives, Cond.instanceMethod yX4_drives, Cond.selects RX4 yX4_drives yX4_drives, Cond.initialized RX4, Cond.code yX4_drives cX4_drives 1 none, Cond.fieldLink RX4 76 "FilmPlayerModel" "isPolled" "Z", Cond.fieldLink RX4 56 "FilmPlayerModel" "waiting" "I", Cond.fieldLink RX4 13 "FilmPlayerModel" "join" "I", Cond.fieldLink RX4 26 "FilmPlayerModel" "came" "[I", Cond.fieldLink RX4 62 "FilmPlayerModel" "head" "I", Cond.fieldLink RX4 16 "FilmPlayerModel" "patience" "I", Cond.fieldLink RX4 19 "FilmPlayerModel" "load" "I", Cond.methodLink RX4 80 yX4_takes, Cond.instanceMethod yX4_takes, Cond.selects RX4 yX4_takes yX4_takes, Cond.code yX4_takes cX4_takes 3 none, Cond.fieldLink RX4 29 "FilmPlayerModel" "has" "[Z", Cond.fieldLink RX4 22 "FilmPlayerModel" "ring" "[I", Cond.methodLink RX4 112 yX4_asksFor]
def wsX4_passes_r2 : List Cond := [Cond.instanceMethod yX4_asksFor, Cond.selects RX4 yX4_asksFor yX4_asksFor, Cond.code yX4_asksFor cX4_asksFor 3 none, Cond.fieldLink RX4 33 "FilmPlayerModel" "wasAsked" "[Z", Cond.fieldLink RX4 36 "FilmPlayerModel" "asked" "[I", Cond.fieldLink RX4 87 "FilmPlayerModel" "askedFor" "I", Cond.methodLink RX4 93 yX4_whole, Cond.instanceMethod yX4_whole, Cond.selects RX4 yX4_whole yX4_whole, Cond.code yX4_whole cX4_whole 2 (some .boolean), Cond.methodLink RX4 121 yX4_turns, Cond.instanceMethod yX4_turns, Cond.selects RX4 yX4_turns yX4_turns, Cond.code yX4_turns cX4_turns 4 none, Cond.fieldLink RX4 39 "FilmPlayerModel" "fate" "[I", Cond.methodLink RX4 96 yX4_before, Cond.static yX4_before, Cond.code yX4_before cX4_before 2 (some .int), Cond.methodLink RX4 90 yX4_kind, Cond.static yX4_kind, Cond.code yX4_kind cX4_kind 1 (some .int), Cond.methodLink RX4 99 yX4_behind, Cond.static yX4_behind, Cond.code yX4_behind cX4_behind 2 (some .int)]
def wsX4_passes_r3 : List Cond := [Cond.methodLink RX4 102 yX4_fillNow, Cond.instanceMethod yX4_fillNow, Cond.selects RX4 yX4_fillNow yX4_fillNow, Cond.code yX4_fillNow cX4_fillNow 2 (some .int)]
def wsX4_passes : List Cond := .code yX4_passes cX4_passes 1 none :: ((wsX4_passes_r1 ++ (wsX4_passes_r2 ++ wsX4_passes_r3)) ++ wsX40)
def wsX4_advance_r1 : List Cond := [Cond.fieldLink RX4 65 "FilmPlayerModel" "tick" "I", Cond.methodLink RX4 48 yX4_in, Cond.static yX4_in, Cond.initialized RX4, Cond.code yX4_in cX4_in 3 (some .boolean), Cond.methodLink RX4 52 yX4_asks, Cond.instanceMethod yX4_asks, Cond.selects RX4 yX4_asks yX4_asks, Cond.code yX4_asks cX4_asks 2 (some .boolean), Cond.fieldLink RX4 45 "FilmPlayerModel" "thrown" "I", Cond.methodLink RX4 72 yX4_fails, Cond.instanceMethod yX4_fails, Cond.selects RX4 yX4_fails yX4_fails, Cond.code yX4_fails cX4_fails 2 (some .int), Cond.methodLink RX4 124 yX4_passes, Cond.instanceMethod yX4_passes, Cond.selects RX4 yX4_passes yX4_passes, Cond.code yX4_passes cX4_passes 1 none, Cond.fieldLink RX4 115 "FilmPlayerModel" "hasBegun" "Z", Cond.fieldLink RX4 118 "FilmPlayerModel" "begun" "I", Cond.fieldLink RX4 84 "FilmPlayerModel" "next" "I", Cond.fieldLink RX4 106 "FilmPlayerModel" "turn" "I", Cond.methodLink RX4 109 yX4_drives, Cond.instanceMethod yX4_drives]
def wsX4_advance_r2 : List Cond := [Cond.selects RX4 yX4_drives yX4_drives, Cond.code yX4_drives cX4_drives 1 none, Cond.fieldLink RX4 76 "FilmPlayerModel" "isPolled" "Z", Cond.fieldLink RX4 56 "FilmPlayerModel" "waiting" "I", Cond.fieldLink RX4 13 "FilmPlayerModel" "join" "I", Cond.fieldLink RX4 26 "FilmPlayerModel" "came" "[I", Cond.fieldLink RX4 62 "FilmPlayerModel" "head" "I", Cond.fieldLink RX4 16 "FilmPlayerModel" "patience" "I", Cond.fieldLink RX4 19 "FilmPlayerModel" "load" "I", Cond.methodLink RX4 80 yX4_takes, Cond.instanceMethod yX4_takes, Cond.selects RX4 yX4_takes yX4_takes, Cond.code yX4_takes cX4_takes 3 none, Cond.fieldLink RX4 29 "FilmPlayerModel" "has" "[Z", Cond.fieldLink RX4 22 "FilmPlayerModel" "ring" "[I", Cond.methodLink RX4 112 yX4_asksFor, Cond.instanceMethod yX4_asksFor, Cond.selects RX4 yX4_asksFor yX4_asksFor, Cond.code yX4_asksFor cX4_asksFor 3 none, Cond.fieldLink RX4 33 "FilmPlayerModel" "wasAsked" "[Z", Cond.fieldLink RX4 36 "FilmPlayerModel" "asked" "[I", Cond.fieldLink RX4 87 "FilmPlayerModel" "askedFor" "I", Cond.methodLink RX4 93 yX4_whole, Cond.instanceMethod yX4_whole]
def wsX4_advance_r3 : List Cond := [Cond.selects RX4 yX4_whole yX4_whole, Cond.code yX4_whole cX4_whole 2 (some .boolean), Cond.methodLink RX4 121 yX4_turns, Cond.instanceMethod yX4_turns, Cond.selects RX4 yX4_turns yX4_turns, Cond.code yX4_turns cX4_turns 4 none, Cond.fieldLink RX4 39 "FilmPlayerModel" "fate" "[I", Cond.methodLink RX4 96 yX4_before, Cond.static yX4_before, Cond.code yX4_before cX4_before 2 (some .int), Cond.methodLink RX4 90 yX4_kind, Cond.static yX4_kind, Cond.code yX4_kind cX4_kind 1 (some .int), Cond.methodLink RX4 99 yX4_behind, Cond.static yX4_behind, Cond.code yX4_behind cX4_behind 2 (some .int), Cond.methodLink RX4 102 yX4_fillNow, Cond.instanceMethod yX4_fillNow, Cond.selects RX4 yX4_fillNow yX4_fillNow, Cond.code yX4_fillNow cX4_fillNow 2 (some .int)]
def wsX4_advance : List Cond := .code yX4_advance cX4_advance 3 (some .int) :: ((wsX4_advance_r1 ++ (wsX4_advance_r2 ++ wsX4_advance_r3)) ++ wsX40)
def wsX4_reset : List Cond := .code yX4_reset cX4_reset 2 (some .int) :: ([.fieldLink RX4 45 "FilmPlayerModel" "thrown" "I", .fieldLink RX4 56 "FilmPlayerModel" "waiting" "I", .fieldLink RX4 59 "FilmPlayerModel" "lost" "I", .fieldLink RX4 76 "FilmPlayerModel" "isPolled" "Z"] ++ wsX40)
def wsX4_tick : List Cond := .code yX4_tick cX4_tick 1 (some .int) :: ([.fieldLink RX4 45 "FilmPlayerModel" "thrown" "I", .fieldLink RX4 65 "FilmPlayerModel" "tick" "I"] ++ wsX40)
def wsX4_waiting : List Cond := .code yX4_waiting cX4_waiting 1 (some .int) :: ([.fieldLink RX4 45 "FilmPlayerModel" "thrown" "I", .fieldLink RX4 56 "FilmPlayerModel" "waiting" "I"] ++ wsX40)
def wsX4_lost : List Cond := .code yX4_lost cX4_lost 1 (some .int) :: ([.fieldLink RX4 45 "FilmPlayerModel" "thrown" "I", .fieldLink RX4 59 "FilmPlayerModel" "lost" "I"] ++ wsX40)
def wsX4_isPolled : List Cond := .code yX4_isPolled cX4_isPolled 1 (some .boolean) :: ([.fieldLink RX4 45 "FilmPlayerModel" "thrown" "I", .fieldLink RX4 76 "FilmPlayerModel" "isPolled" "Z"] ++ wsX40)
def wsX4_has : List Cond := .code yX4_has cX4_has 2 (some .boolean) :: ([.fieldLink RX4 29 "FilmPlayerModel" "has" "[Z", .methodLink RX4 48 yX4_in, .static yX4_in, .initialized RX4, .code yX4_in cX4_in 3 (some .boolean), .methodLink RX4 52 yX4_asks, .instanceMethod yX4_asks, .selects RX4 yX4_asks yX4_asks, .code yX4_asks cX4_asks 2 (some .boolean), .fieldLink RX4 45 "FilmPlayerModel" "thrown" "I"] ++ wsX40)
def wsX4_askedAt : List Cond := .code yX4_askedAt cX4_askedAt 2 (some .int) :: ([.fieldLink RX4 87 "FilmPlayerModel" "askedFor" "I", .fieldLink RX4 36 "FilmPlayerModel" "asked" "[I", .methodLink RX4 48 yX4_in, .static yX4_in, .initialized RX4, .code yX4_in cX4_in 3 (some .boolean), .methodLink RX4 52 yX4_asks, .instanceMethod yX4_asks, .selects RX4 yX4_asks yX4_asks, .code yX4_asks cX4_asks 2 (some .boolean), .fieldLink RX4 45 "FilmPlayerModel" "thrown" "I"] ++ wsX40)
def wsX4_asked : List Cond := .code yX4_asked cX4_asked 1 (some .int) :: ([.fieldLink RX4 45 "FilmPlayerModel" "thrown" "I", .fieldLink RX4 87 "FilmPlayerModel" "askedFor" "I"] ++ wsX40)
def wsX4_isFrame : List Cond := .code yX4_isFrame cX4_isFrame 1 (some .boolean) :: ([])
def wsX4_kindOf : List Cond := .code yX4_kindOf cX4_kindOf 2 (some .int) :: ([.methodLink RX4 127 yX4_isFrame, .static yX4_isFrame, .initialized RX4, .code yX4_isFrame cX4_isFrame 1 (some .boolean), .methodLink RX4 52 yX4_asks, .instanceMethod yX4_asks, .selects RX4 yX4_asks yX4_asks, .code yX4_asks cX4_asks 2 (some .boolean), .fieldLink RX4 45 "FilmPlayerModel" "thrown" "I", .methodLink RX4 90 yX4_kind, .static yX4_kind, .code yX4_kind cX4_kind 1 (some .int)] ++ wsX40)
def wsX4_need : List Cond := .code yX4_need cX4_need 3 (some .int) :: ([.methodLink RX4 127 yX4_isFrame, .static yX4_isFrame, .initialized RX4, .code yX4_isFrame cX4_isFrame 1 (some .boolean), .methodLink RX4 52 yX4_asks, .instanceMethod yX4_asks, .selects RX4 yX4_asks yX4_asks, .code yX4_asks cX4_asks 2 (some .boolean), .fieldLink RX4 45 "FilmPlayerModel" "thrown" "I", .methodLink RX4 99 yX4_behind, .static yX4_behind, .code yX4_behind cX4_behind 2 (some .int), .methodLink RX4 90 yX4_kind, .static yX4_kind, .code yX4_kind cX4_kind 1 (some .int), .methodLink RX4 96 yX4_before, .static yX4_before, .code yX4_before cX4_before 2 (some .int)] ++ wsX40)
def wsX4_isWhole : List Cond := .code yX4_isWhole cX4_isWhole 2 (some .boolean) :: ([.methodLink RX4 127 yX4_isFrame, .static yX4_isFrame, .initialized RX4, .code yX4_isFrame cX4_isFrame 1 (some .boolean), .methodLink RX4 52 yX4_asks, .instanceMethod yX4_asks, .selects RX4 yX4_asks yX4_asks, .code yX4_asks cX4_asks 2 (some .boolean), .fieldLink RX4 45 "FilmPlayerModel" "thrown" "I", .methodLink RX4 93 yX4_whole, .instanceMethod yX4_whole, .selects RX4 yX4_whole yX4_whole, .code yX4_whole cX4_whole 2 (some .boolean), .fieldLink RX4 29 "FilmPlayerModel" "has" "[Z"] ++ wsX40)
def wsX4_fate : List Cond := .code yX4_fate cX4_fate 2 (some .int) :: ([.fieldLink RX4 39 "FilmPlayerModel" "fate" "[I", .methodLink RX4 127 yX4_isFrame, .static yX4_isFrame, .initialized RX4, .code yX4_isFrame cX4_isFrame 1 (some .boolean), .methodLink RX4 52 yX4_asks, .instanceMethod yX4_asks, .selects RX4 yX4_asks yX4_asks, .code yX4_asks cX4_asks 2 (some .boolean), .fieldLink RX4 45 "FilmPlayerModel" "thrown" "I"] ++ wsX40)
def wsX4_next : List Cond := .code yX4_next cX4_next 1 (some .int) :: ([.fieldLink RX4 45 "FilmPlayerModel" "thrown" "I", .fieldLink RX4 84 "FilmPlayerModel" "next" "I"] ++ wsX40)
def wsX4_turn : List Cond := .code yX4_turn cX4_turn 1 (some .int) :: ([.fieldLink RX4 45 "FilmPlayerModel" "thrown" "I", .fieldLink RX4 115 "FilmPlayerModel" "hasBegun" "Z", .fieldLink RX4 84 "FilmPlayerModel" "next" "I", .fieldLink RX4 106 "FilmPlayerModel" "turn" "I"] ++ wsX40)
def wsX4_fill : List Cond := .code yX4_fill cX4_fill 1 (some .int) :: ([.fieldLink RX4 45 "FilmPlayerModel" "thrown" "I", .methodLink RX4 102 yX4_fillNow, .instanceMethod yX4_fillNow, .selects RX4 yX4_fillNow yX4_fillNow, .initialized RX4, .code yX4_fillNow cX4_fillNow 2 (some .int), .fieldLink RX4 84 "FilmPlayerModel" "next" "I", .methodLink RX4 93 yX4_whole, .instanceMethod yX4_whole, .selects RX4 yX4_whole yX4_whole, .code yX4_whole cX4_whole 2 (some .boolean), .fieldLink RX4 29 "FilmPlayerModel" "has" "[Z"] ++ wsX40)
def wsX4_shown : List Cond := .code yX4_shown cX4_shown 3 (some .int) :: ([.fieldLink RX4 45 "FilmPlayerModel" "thrown" "I", .fieldLink RX4 39 "FilmPlayerModel" "fate" "[I"] ++ wsX40)
def wsX4_couldBe : List Cond := .code yX4_couldBe cX4_couldBe 3 (some .int) :: ([.fieldLink RX4 45 "FilmPlayerModel" "thrown" "I", .fieldLink RX4 84 "FilmPlayerModel" "next" "I", .fieldLink RX4 42 "FilmPlayerModel" "could" "[Z", .methodLink RX4 93 yX4_whole, .instanceMethod yX4_whole, .selects RX4 yX4_whole yX4_whole, .initialized RX4, .code yX4_whole cX4_whole 2 (some .boolean), .fieldLink RX4 29 "FilmPlayerModel" "has" "[Z", .methodLink RX4 96 yX4_before, .static yX4_before, .code yX4_before cX4_before 2 (some .int), .methodLink RX4 90 yX4_kind, .static yX4_kind, .code yX4_kind cX4_kind 1 (some .int), .methodLink RX4 99 yX4_behind, .static yX4_behind, .code yX4_behind cX4_behind 2 (some .int)] ++ wsX40)
def wsX4_gap : List Cond := .code yX4_gap cX4_gap 1 (some .int) :: ([.fieldLink RX4 45 "FilmPlayerModel" "thrown" "I", .fieldLink RX4 115 "FilmPlayerModel" "hasBegun" "Z", .fieldLink RX4 84 "FilmPlayerModel" "next" "I", .fieldLink RX4 106 "FilmPlayerModel" "turn" "I", .fieldLink RX4 118 "FilmPlayerModel" "begun" "I"] ++ wsX40)
def wsJ9_max_7cf53 : List Cond := .code yJ9_max_7cf53 cJ9_max_7cf53 2 (some .int) :: ([])
def wsJ9_min_7cf53 : List Cond := .code yJ9_min_7cf53 cJ9_min_7cf53 2 (some .int) :: ([])
def wsL_set : List Cond := .codeWith yL_set cL_set 6 (some .int) [(0, 9, 12, 13)] :: ([.classLink RL 13 "java/lang/IllegalArgumentException", .methodLink RL 7 yX3_set, .instanceMethod yX3_set, .selects RX3 yX3_set yX3_set, .initialized RX3, .code yX3_set cX3_set 5 none, .classLink RX3 36 "java/lang/IllegalArgumentException", .initialized "java/lang/IllegalArgumentException", .fieldLink RX3 12 "FilmPlayer" "ring" "LFilmPlayer$Ring;", .methodLink RX3 32 yX3_isFromOneTo, .static yX3_isFromOneTo, .code yX3_isFromOneTo cX3_isFromOneTo 2 (some .boolean)] ++ wsX30 ++ wsX10 ++ (vx_atS RX3 40 "java/lang/IllegalArgumentException" ["java/lang/RuntimeException", "java/lang/Exception"]).filter goodWord)
def wsL_arrive : List Cond := .codeWith yL_arrive cL_arrive 4 (some .int) [(0, 9, 12, 19)] :: ([.classLink RL 19 "java/lang/IndexOutOfBoundsException", .methodLink RL 15 yX3_arrive, .instanceMethod yX3_arrive, .selects RX3 yX3_arrive yX3_arrive, .initialized RX3, .code yX3_arrive cX3_arrive 2 (some .int), .classLink RX3 60 "java/lang/IndexOutOfBoundsException", .initialized "java/lang/IndexOutOfBoundsException", .fieldLink RX3 12 "FilmPlayer" "ring" "LFilmPlayer$Ring;", .fieldLink RX3 65 "FilmPlayer" "now" "I", .methodLink RX3 56 yX3_isPacket, .static yX3_isPacket, .code yX3_isPacket cX3_isPacket 1 (some .boolean), .methodLink RX3 68 yX1_put, .instanceMethod yX1_put, .selects RX1 yX1_put yX1_put, .initialized RX1, .code yX1_put cX1_put 3 (some .boolean), .fieldLink RX1 18 "FilmPlayer$Ring" "count" "I", .fieldLink RX1 22 "FilmPlayer$Ring" "size" "I", .fieldLink RX1 38 "FilmPlayer$Ring" "lostCount" "I", .fieldLink RX1 9 "FilmPlayer$Ring" "packets" "[I", .fieldLink RX1 15 "FilmPlayer$Ring" "arrivals" "[I"] ++ wsX30 ++ wsX10 ++ (vx_atS RX3 64 "java/lang/IndexOutOfBoundsException" ["java/lang/RuntimeException", "java/lang/Exception"]).filter goodWord)
def wsL_arriveRow_r1 : List Cond := [Cond.classLink RL 19 "java/lang/IndexOutOfBoundsException", Cond.classLink RL 13 "java/lang/IllegalArgumentException", Cond.methodLink RL 21 yX3_arriveRow, Cond.instanceMethod yX3_arriveRow, Cond.selects RX3 yX3_arriveRow yX3_arriveRow, Cond.initialized RX3, Cond.code yX3_arriveRow cX3_arriveRow 5 (some .int), Cond.classLink RX3 60 "java/lang/IndexOutOfBoundsException", Cond.initialized "java/lang/IndexOutOfBoundsException", Cond.classLink RX3 36 "java/lang/IllegalArgumentException", Cond.initialized "java/lang/IllegalArgumentException", Cond.fieldLink RX3 12 "FilmPlayer" "ring" "LFilmPlayer$Ring;", Cond.fieldLink RX3 65 "FilmPlayer" "now" "I", Cond.methodLink RX3 56 yX3_isPacket, Cond.static yX3_isPacket, Cond.code yX3_isPacket cX3_isPacket 1 (some .boolean), Cond.methodLink RX3 32 yX3_isFromOneTo, Cond.static yX3_isFromOneTo, Cond.code yX3_isFromOneTo cX3_isFromOneTo 2 (some .boolean), Cond.methodLink RX3 68 yX1_put, Cond.instanceMethod yX1_put, Cond.selects RX1 yX1_put yX1_put, Cond.initialized RX1, Cond.code yX1_put cX1_put 3 (some .boolean)]
def wsL_arriveRow_r2 : List Cond := [Cond.fieldLink RX1 18 "FilmPlayer$Ring" "count" "I", Cond.fieldLink RX1 22 "FilmPlayer$Ring" "size" "I", Cond.fieldLink RX1 38 "FilmPlayer$Ring" "lostCount" "I", Cond.fieldLink RX1 9 "FilmPlayer$Ring" "packets" "[I", Cond.fieldLink RX1 15 "FilmPlayer$Ring" "arrivals" "[I"]
def wsL_arriveRow : List Cond := .codeWith yL_arriveRow cL_arriveRow 5 (some .int) [(0, 10, 13, 19), (0, 10, 17, 13)] :: ((wsL_arriveRow_r1 ++ wsL_arriveRow_r2) ++ wsX30 ++ wsX10 ++ (vx_atS RX3 64 "java/lang/IndexOutOfBoundsException" ["java/lang/RuntimeException", "java/lang/Exception"]).filter goodWord ++ (vx_atS RX3 40 "java/lang/IllegalArgumentException" ["java/lang/RuntimeException", "java/lang/Exception"]).filter goodWord)
def wsL_advance_r1 : List Cond := [Cond.classLink RL 13 "java/lang/IllegalArgumentException", Cond.classLink RL 28 "java/lang/IllegalStateException", Cond.methodLink RL 25 yX3_advance, Cond.instanceMethod yX3_advance, Cond.selects RX3 yX3_advance yX3_advance, Cond.initialized RX3, Cond.code yX3_advance cX3_advance 3 (some .int), Cond.classLink RX3 36 "java/lang/IllegalArgumentException", Cond.initialized "java/lang/IllegalArgumentException", Cond.classLink RX3 80 "java/lang/IllegalStateException", Cond.initialized "java/lang/IllegalStateException", Cond.fieldLink RX3 65 "FilmPlayer" "now" "I", Cond.methodLink RX3 32 yX3_isFromOneTo, Cond.static yX3_isFromOneTo, Cond.code yX3_isFromOneTo cX3_isFromOneTo 2 (some .boolean), Cond.methodLink RX3 85 yX3_passTick, Cond.instanceMethod yX3_passTick, Cond.selects RX3 yX3_passTick yX3_passTick, Cond.code yX3_passTick cX3_passTick 3 none, Cond.fieldLink RX3 12 "FilmPlayer" "ring" "LFilmPlayer$Ring;", Cond.fieldLink RX3 19 "FilmPlayer" "store" "LFilmPlayer$Store;", Cond.fieldLink RX3 28 "FilmPlayer" "film" "LFilmPlayer$Film;", Cond.methodLink RX3 150 yX1_chooseMany, Cond.instanceMethod yX1_chooseMany]
def wsL_advance_r2 : List Cond := [Cond.selects RX1 yX1_chooseMany yX1_chooseMany, Cond.initialized RX1, Cond.code yX1_chooseMany cX1_chooseMany 3 (some .int), Cond.fieldLink RX1 34 "FilmPlayer$Ring" "polling" "Z", Cond.fieldLink RX1 18 "FilmPlayer$Ring" "count" "I", Cond.methodLink RX1 41 Lib.Math.min.name, Cond.static Lib.Math.min.name, Cond.initialized "java/lang/Math", Cond.code Lib.Math.min.name Lib.Math.min.code 2 (some .int), Cond.fieldLink RX1 31 "FilmPlayer$Ring" "load" "I", Cond.methodLink RX1 47 yX1_isInterruptDue, Cond.instanceMethod yX1_isInterruptDue, Cond.selects RX1 yX1_isInterruptDue yX1_isInterruptDue, Cond.code yX1_isInterruptDue cX1_isInterruptDue 2 (some .boolean), Cond.fieldLink RX1 25 "FilmPlayer$Ring" "join" "I", Cond.fieldLink RX1 15 "FilmPlayer$Ring" "arrivals" "[I", Cond.fieldLink RX1 28 "FilmPlayer$Ring" "patience" "I", Cond.methodLink RX3 153 yX1_packetAt, Cond.instanceMethod yX1_packetAt, Cond.selects RX1 yX1_packetAt yX1_packetAt, Cond.code yX1_packetAt cX1_packetAt 2 (some .int), Cond.fieldLink RX1 9 "FilmPlayer$Ring" "packets" "[I", Cond.methodLink RX3 156 yX2_add, Cond.instanceMethod yX2_add]
def wsL_advance_r3 : List Cond := [Cond.selects RX2 yX2_add yX2_add, Cond.initialized RX2, Cond.code yX2_add cX2_add 2 none, Cond.fieldLink RX2 9 "FilmPlayer$Store" "had" "[Z", Cond.fieldLink RX2 23 "FilmPlayer$Store" "highest" "I", Cond.methodLink RX2 33 Lib.Math.max.name, Cond.static Lib.Math.max.name, Cond.code Lib.Math.max.name Lib.Math.max.code 2 (some .int), Cond.static yX3_isPacket, Cond.code yX3_isPacket cX3_isPacket 1 (some .boolean), Cond.methodLink RX3 160 yX1_removeFirst, Cond.instanceMethod yX1_removeFirst, Cond.selects RX1 yX1_removeFirst yX1_removeFirst, Cond.code yX1_removeFirst cX1_removeFirst 5 none, Cond.methodLink RX1 51 Lib.Math.max.name, Cond.methodLink RX3 163 yX2_askForMissing, Cond.instanceMethod yX2_askForMissing, Cond.selects RX2 yX2_askForMissing yX2_askForMissing, Cond.code yX2_askForMissing cX2_askForMissing 3 none, Cond.fieldLink RX2 26 "FilmPlayer$Store" "lookedUpTo" "I", Cond.methodLink RX2 39 yX2_holds, Cond.instanceMethod yX2_holds, Cond.selects RX2 yX2_holds yX2_holds, Cond.code yX2_holds cX2_holds 2 (some .boolean)]
def wsL_advance_r4 : List Cond := [Cond.methodLink RX2 42 yX2_ask, Cond.instanceMethod yX2_ask, Cond.selects RX2 yX2_ask yX2_ask, Cond.code yX2_ask cX2_ask 2 none, Cond.fieldLink RX2 19 "FilmPlayer$Store" "askedCount" "I", Cond.fieldLink RX2 15 "FilmPlayer$Store" "askedRow" "[I", Cond.methodLink RX3 166 yX0_play, Cond.instanceMethod yX0_play, Cond.selects RX0 yX0_play yX0_play, Cond.initialized RX0, Cond.code yX0_play cX0_play 2 none, Cond.fieldLink RX0 19 "FilmPlayer$Film" "beginTick" "I", Cond.fieldLink RX0 22 "FilmPlayer$Film" "turnTick" "I", Cond.methodLink RX0 36 yX0_canBegin, Cond.instanceMethod yX0_canBegin, Cond.selects RX0 yX0_canBegin yX0_canBegin, Cond.code yX0_canBegin cX0_canBegin 2 (some .boolean), Cond.fieldLink RX0 28 "FilmPlayer$Film" "store" "LFilmPlayer$Store;", Cond.methodLink RX0 44 yX2_holdsFrame, Cond.instanceMethod yX2_holdsFrame, Cond.selects RX2 yX2_holdsFrame yX2_holdsFrame, Cond.code yX2_holdsFrame cX2_holdsFrame 3 (some .boolean), Cond.methodLink RX0 40 yX0_giveTurn, Cond.instanceMethod yX0_giveTurn]
def wsL_advance_r5 : List Cond := [Cond.selects RX0 yX0_giveTurn yX0_giveTurn, Cond.code yX0_giveTurn cX0_giveTurn 3 none, Cond.fieldLink RX0 15 "FilmPlayer$Film" "nextFrame" "I", Cond.fieldLink RX0 9 "FilmPlayer$Film" "fates" "[I", Cond.fieldLink RX0 25 "FilmPlayer$Film" "shownCount" "I", Cond.static yX3_isFrame, Cond.code yX3_isFrame cX3_isFrame 1 (some .boolean), Cond.methodLink RX0 53 yX0_outcomeOf, Cond.instanceMethod yX0_outcomeOf, Cond.selects RX0 yX0_outcomeOf yX0_outcomeOf, Cond.code yX0_outcomeOf cX0_outcomeOf 5 (some .int), Cond.methodLink RX0 60 yX0_needBefore, Cond.static yX0_needBefore, Cond.code yX0_needBefore cX0_needBefore 2 (some .int), Cond.methodLink RX0 32 yX0_kind, Cond.static yX0_kind, Cond.code yX0_kind cX0_kind 1 (some .int), Cond.methodLink RX0 63 yX0_needBehind, Cond.static yX0_needBehind, Cond.code yX0_needBehind cX0_needBehind 1 (some .int), Cond.methodLink RX0 66 yX0_wasShown, Cond.instanceMethod yX0_wasShown, Cond.selects RX0 yX0_wasShown yX0_wasShown, Cond.code yX0_wasShown cX0_wasShown 2 (some .boolean)]
def wsL_advance_r6 : List Cond := [Cond.methodLink RX0 69 yX0_isWholeIfAny, Cond.instanceMethod yX0_isWholeIfAny, Cond.selects RX0 yX0_isWholeIfAny yX0_isWholeIfAny, Cond.code yX0_isWholeIfAny cX0_isWholeIfAny 2 (some .boolean), Cond.methodLink RX0 56 yX0_pace, Cond.instanceMethod yX0_pace, Cond.selects RX0 yX0_pace yX0_pace, Cond.code yX0_pace cX0_pace 2 (some .int), Cond.methodLink RX0 72 yX0_wholeAhead, Cond.instanceMethod yX0_wholeAhead, Cond.selects RX0 yX0_wholeAhead yX0_wholeAhead, Cond.code yX0_wholeAhead cX0_wholeAhead 3 (some .int)]
def wsL_advance : List Cond := .codeWith yL_advance cL_advance 4 (some .int) [(0, 9, 12, 13), (0, 9, 15, 28)] :: ((wsL_advance_r1 ++ (wsL_advance_r2 ++ (wsL_advance_r3 ++ (wsL_advance_r4 ++ (wsL_advance_r5 ++ wsL_advance_r6))))) ++ wsX30 ++ wsX00 ++ wsX10 ++ wsX20 ++ (vx_atS RX3 40 "java/lang/IllegalArgumentException" ["java/lang/RuntimeException", "java/lang/Exception"]).filter goodWord ++ (vx_atS RX3 84 "java/lang/IllegalStateException" ["java/lang/RuntimeException", "java/lang/Exception"]).filter goodWord)
def wsL_has : List Cond := .codeWith yL_has cL_has 4 (some .int) [(0, 16, 19, 19)] :: ([.classLink RL 19 "java/lang/IndexOutOfBoundsException", .methodLink RL 30 yX3_has, .instanceMethod yX3_has, .selects RX3 yX3_has yX3_has, .initialized RX3, .code yX3_has cX3_has 2 (some .boolean), .classLink RX3 60 "java/lang/IndexOutOfBoundsException", .initialized "java/lang/IndexOutOfBoundsException", .fieldLink RX3 19 "FilmPlayer" "store" "LFilmPlayer$Store;", .methodLink RX3 56 yX3_isPacket, .static yX3_isPacket, .code yX3_isPacket cX3_isPacket 1 (some .boolean), .methodLink RX3 99 yX2_holds, .instanceMethod yX2_holds, .selects RX2 yX2_holds yX2_holds, .initialized RX2, .code yX2_holds cX2_holds 2 (some .boolean), .fieldLink RX2 9 "FilmPlayer$Store" "had" "[Z"] ++ wsX30 ++ wsX20 ++ (vx_atS RX3 64 "java/lang/IndexOutOfBoundsException" ["java/lang/RuntimeException", "java/lang/Exception"]).filter goodWord)
def wsL_askedAt : List Cond := .codeWith yL_askedAt cL_askedAt 4 (some .int) [(0, 9, 12, 19)] :: ([.classLink RL 19 "java/lang/IndexOutOfBoundsException", .methodLink RL 34 yX3_askedAt, .instanceMethod yX3_askedAt, .selects RX3 yX3_askedAt yX3_askedAt, .initialized RX3, .code yX3_askedAt cX3_askedAt 2 (some .int), .classLink RX3 60 "java/lang/IndexOutOfBoundsException", .initialized "java/lang/IndexOutOfBoundsException", .fieldLink RX3 19 "FilmPlayer" "store" "LFilmPlayer$Store;"] ++ wsX30 ++ wsX20 ++ (vx_atS RX3 64 "java/lang/IndexOutOfBoundsException" ["java/lang/RuntimeException", "java/lang/Exception"]).filter goodWord)
def wsL_kindOf : List Cond := .codeWith yL_kindOf cL_kindOf 4 (some .int) [(0, 9, 12, 19)] :: ([.classLink RL 19 "java/lang/IndexOutOfBoundsException", .methodLink RL 37 yX3_kindOf, .instanceMethod yX3_kindOf, .selects RX3 yX3_kindOf yX3_kindOf, .initialized RX3, .code yX3_kindOf cX3_kindOf 2 (some .int), .classLink RX3 60 "java/lang/IndexOutOfBoundsException", .initialized "java/lang/IndexOutOfBoundsException", .methodLink RX3 111 yX3_isFrame, .static yX3_isFrame, .code yX3_isFrame cX3_isFrame 1 (some .boolean), .methodLink RX3 116 yX0_kind, .static yX0_kind, .initialized RX0, .code yX0_kind cX0_kind 1 (some .int)] ++ (vx_atS RX3 64 "java/lang/IndexOutOfBoundsException" ["java/lang/RuntimeException", "java/lang/Exception"]).filter goodWord)
def wsL_need : List Cond := .codeWith yL_need cL_need 5 (some .int) [(0, 10, 13, 19)] :: ([.classLink RL 19 "java/lang/IndexOutOfBoundsException", .methodLink RL 40 yX3_need, .instanceMethod yX3_need, .selects RX3 yX3_need yX3_need, .initialized RX3, .code yX3_need cX3_need 3 (some .int), .classLink RX3 60 "java/lang/IndexOutOfBoundsException", .initialized "java/lang/IndexOutOfBoundsException", .methodLink RX3 111 yX3_isFrame, .static yX3_isFrame, .code yX3_isFrame cX3_isFrame 1 (some .boolean), .methodLink RX3 120 yX0_needBehind, .static yX0_needBehind, .initialized RX0, .code yX0_needBehind cX0_needBehind 1 (some .int), .methodLink RX0 32 yX0_kind, .static yX0_kind, .code yX0_kind cX0_kind 1 (some .int), .methodLink RX3 123 yX0_needBefore, .static yX0_needBefore, .code yX0_needBefore cX0_needBefore 2 (some .int)] ++ (vx_atS RX3 64 "java/lang/IndexOutOfBoundsException" ["java/lang/RuntimeException", "java/lang/Exception"]).filter goodWord)
def wsL_isWhole : List Cond := .codeWith yL_isWhole cL_isWhole 4 (some .int) [(0, 16, 19, 19)] :: ([.classLink RL 19 "java/lang/IndexOutOfBoundsException", .methodLink RL 44 yX3_isWhole, .instanceMethod yX3_isWhole, .selects RX3 yX3_isWhole yX3_isWhole, .initialized RX3, .code yX3_isWhole cX3_isWhole 2 (some .boolean), .classLink RX3 60 "java/lang/IndexOutOfBoundsException", .initialized "java/lang/IndexOutOfBoundsException", .fieldLink RX3 19 "FilmPlayer" "store" "LFilmPlayer$Store;", .methodLink RX3 111 yX3_isFrame, .static yX3_isFrame, .code yX3_isFrame cX3_isFrame 1 (some .boolean), .methodLink RX3 126 yX2_holdsFrame, .instanceMethod yX2_holdsFrame, .selects RX2 yX2_holdsFrame yX2_holdsFrame, .initialized RX2, .code yX2_holdsFrame cX2_holdsFrame 3 (some .boolean), .fieldLink RX2 9 "FilmPlayer$Store" "had" "[Z"] ++ wsX30 ++ wsX20 ++ (vx_atS RX3 64 "java/lang/IndexOutOfBoundsException" ["java/lang/RuntimeException", "java/lang/Exception"]).filter goodWord)
def wsL_fate : List Cond := .codeWith yL_fate cL_fate 4 (some .int) [(0, 9, 12, 19)] :: ([.classLink RL 19 "java/lang/IndexOutOfBoundsException", .methodLink RL 47 yX3_fate, .instanceMethod yX3_fate, .selects RX3 yX3_fate yX3_fate, .initialized RX3, .code yX3_fate cX3_fate 2 (some .int), .classLink RX3 60 "java/lang/IndexOutOfBoundsException", .initialized "java/lang/IndexOutOfBoundsException", .fieldLink RX3 28 "FilmPlayer" "film" "LFilmPlayer$Film;", .methodLink RX3 111 yX3_isFrame, .static yX3_isFrame, .code yX3_isFrame cX3_isFrame 1 (some .boolean)] ++ wsX30 ++ wsX00 ++ (vx_atS RX3 64 "java/lang/IndexOutOfBoundsException" ["java/lang/RuntimeException", "java/lang/Exception"]).filter goodWord)
def wsL_law0_r1 : List Cond := [Cond.classLink RL 8 RX3, Cond.instantiable RX3 4, Cond.initialized RX3, Cond.classLink RL 51 RX4, Cond.instantiable RX4 22, Cond.initialized RX4, Cond.arrayClass .long, Cond.methodLink RL 50 yX3_init, Cond.instanceMethod yX3_init, Cond.code yX3_init cX3_init 1 none, Cond.methodLink RX3 3 objectInit, Cond.instanceMethod objectInit, Cond.code objectInit ⟨#[0xb1]⟩ 1 none, Cond.classLink RX3 9 RX1, Cond.instantiable RX1 9, Cond.initialized RX1, Cond.fieldLink RX3 12 "FilmPlayer" "ring" "LFilmPlayer$Ring;", Cond.classLink RX3 16 RX2, Cond.instantiable RX2 5, Cond.initialized RX2, Cond.fieldLink RX3 19 "FilmPlayer" "store" "LFilmPlayer$Store;", Cond.classLink RX3 23 RX0, Cond.instantiable RX0 6, Cond.initialized RX0]
def wsL_law0_r2 : List Cond := [Cond.fieldLink RX3 28 "FilmPlayer" "film" "LFilmPlayer$Film;", Cond.instanceMethod yX1_init, Cond.code yX1_init cX1_init 1 none, Cond.methodLink RX1 3 objectInit, Cond.arrayClass .int, Cond.fieldLink RX1 9 "FilmPlayer$Ring" "packets" "[I", Cond.fieldLink RX1 15 "FilmPlayer$Ring" "arrivals" "[I", Cond.fieldLink RX1 18 "FilmPlayer$Ring" "count" "I", Cond.fieldLink RX1 22 "FilmPlayer$Ring" "size" "I", Cond.fieldLink RX1 25 "FilmPlayer$Ring" "join" "I", Cond.fieldLink RX1 28 "FilmPlayer$Ring" "patience" "I", Cond.fieldLink RX1 31 "FilmPlayer$Ring" "load" "I", Cond.fieldLink RX1 34 "FilmPlayer$Ring" "polling" "Z", Cond.fieldLink RX1 38 "FilmPlayer$Ring" "lostCount" "I", Cond.instanceMethod yX2_init, Cond.code yX2_init cX2_init 1 none, Cond.methodLink RX2 3 objectInit, Cond.arrayClass .boolean, Cond.fieldLink RX2 9 "FilmPlayer$Store" "had" "[Z", Cond.fieldLink RX2 15 "FilmPlayer$Store" "askedRow" "[I", Cond.fieldLink RX2 19 "FilmPlayer$Store" "askedCount" "I", Cond.fieldLink RX2 23 "FilmPlayer$Store" "highest" "I", Cond.fieldLink RX2 26 "FilmPlayer$Store" "lookedUpTo" "I", Cond.methodLink RX3 25 yX0_init]
def wsL_law0_r3 : List Cond := [Cond.instanceMethod yX0_init, Cond.code yX0_init cX0_init 2 none, Cond.methodLink RX0 3 objectInit, Cond.fieldLink RX0 9 "FilmPlayer$Film" "fates" "[I", Cond.fieldLink RX0 15 "FilmPlayer$Film" "nextFrame" "I", Cond.fieldLink RX0 19 "FilmPlayer$Film" "beginTick" "I", Cond.fieldLink RX0 22 "FilmPlayer$Film" "turnTick" "I", Cond.fieldLink RX0 25 "FilmPlayer$Film" "shownCount" "I", Cond.fieldLink RX0 28 "FilmPlayer$Film" "store" "LFilmPlayer$Store;", Cond.methodLink RL 53 yX4_init, Cond.instanceMethod yX4_init, Cond.code yX4_init cX4_init 1 none, Cond.methodLink RX4 1 objectInit, Cond.fieldLink RX4 7 "FilmPlayerModel" "size" "I", Cond.fieldLink RX4 13 "FilmPlayerModel" "join" "I", Cond.fieldLink RX4 16 "FilmPlayerModel" "patience" "I", Cond.fieldLink RX4 19 "FilmPlayerModel" "load" "I", Cond.fieldLink RX4 22 "FilmPlayerModel" "ring" "[I", Cond.fieldLink RX4 26 "FilmPlayerModel" "came" "[I", Cond.fieldLink RX4 29 "FilmPlayerModel" "has" "[Z", Cond.fieldLink RX4 33 "FilmPlayerModel" "wasAsked" "[Z", Cond.fieldLink RX4 36 "FilmPlayerModel" "asked" "[I", Cond.fieldLink RX4 39 "FilmPlayerModel" "fate" "[I", Cond.fieldLink RX4 42 "FilmPlayerModel" "could" "[Z"]
def wsL_law0_r4 : List Cond := [Cond.methodLink RL 54 yL_set, Cond.static yL_set, Cond.initialized RL, Cond.codeWith yL_set cL_set 6 (some .int) [(0, 9, 12, 13)], Cond.classLink RL 13 "java/lang/IllegalArgumentException", Cond.methodLink RL 7 yX3_set, Cond.instanceMethod yX3_set, Cond.selects RX3 yX3_set yX3_set, Cond.code yX3_set cX3_set 5 none, Cond.classLink RX3 36 "java/lang/IllegalArgumentException", Cond.initialized "java/lang/IllegalArgumentException", Cond.methodLink RX3 32 yX3_isFromOneTo, Cond.static yX3_isFromOneTo, Cond.code yX3_isFromOneTo cX3_isFromOneTo 2 (some .boolean), Cond.methodLink RL 59 yX4_set, Cond.instanceMethod yX4_set, Cond.selects RX4 yX4_set yX4_set, Cond.code yX4_set cX4_set 5 none, Cond.methodLink RX4 48 yX4_in, Cond.static yX4_in, Cond.code yX4_in cX4_in 3 (some .boolean), Cond.methodLink RX4 52 yX4_asks, Cond.instanceMethod yX4_asks, Cond.selects RX4 yX4_asks yX4_asks]
def wsL_law0_r5 : List Cond := [Cond.code yX4_asks cX4_asks 2 (some .boolean), Cond.fieldLink RX4 45 "FilmPlayerModel" "thrown" "I", Cond.methodLink RL 60 yX4_thrown, Cond.instanceMethod yX4_thrown, Cond.selects RX4 yX4_thrown yX4_thrown, Cond.code yX4_thrown cX4_thrown 1 (some .int), Cond.methodLink RL 64 yL_arrive, Cond.static yL_arrive, Cond.codeWith yL_arrive cL_arrive 4 (some .int) [(0, 9, 12, 19)], Cond.classLink RL 19 "java/lang/IndexOutOfBoundsException", Cond.methodLink RL 15 yX3_arrive, Cond.instanceMethod yX3_arrive, Cond.selects RX3 yX3_arrive yX3_arrive, Cond.code yX3_arrive cX3_arrive 2 (some .int), Cond.classLink RX3 60 "java/lang/IndexOutOfBoundsException", Cond.initialized "java/lang/IndexOutOfBoundsException", Cond.fieldLink RX3 65 "FilmPlayer" "now" "I", Cond.methodLink RX3 56 yX3_isPacket, Cond.static yX3_isPacket, Cond.code yX3_isPacket cX3_isPacket 1 (some .boolean), Cond.methodLink RX3 68 yX1_put, Cond.instanceMethod yX1_put, Cond.selects RX1 yX1_put yX1_put, Cond.code yX1_put cX1_put 3 (some .boolean)]
def wsL_law0_r6 : List Cond := [Cond.methodLink RL 67 yX4_arrive, Cond.instanceMethod yX4_arrive, Cond.selects RX4 yX4_arrive yX4_arrive, Cond.code yX4_arrive cX4_arrive 2 (some .int), Cond.fieldLink RX4 56 "FilmPlayerModel" "waiting" "I", Cond.methodLink RX4 68 yX4_comes, Cond.instanceMethod yX4_comes, Cond.selects RX4 yX4_comes yX4_comes, Cond.code yX4_comes cX4_comes 3 (some .boolean), Cond.fieldLink RX4 59 "FilmPlayerModel" "lost" "I", Cond.fieldLink RX4 62 "FilmPlayerModel" "head" "I", Cond.fieldLink RX4 65 "FilmPlayerModel" "tick" "I", Cond.methodLink RL 68 yL_arriveRow, Cond.static yL_arriveRow, Cond.codeWith yL_arriveRow cL_arriveRow 5 (some .int) [(0, 10, 13, 19), (0, 10, 17, 13)], Cond.methodLink RL 21 yX3_arriveRow, Cond.instanceMethod yX3_arriveRow, Cond.selects RX3 yX3_arriveRow yX3_arriveRow, Cond.code yX3_arriveRow cX3_arriveRow 5 (some .int), Cond.methodLink RL 71 yX4_arriveRow, Cond.instanceMethod yX4_arriveRow, Cond.selects RX4 yX4_arriveRow yX4_arriveRow, Cond.code yX4_arriveRow cX4_arriveRow 5 (some .int), Cond.methodLink RX4 72 yX4_fails]
def wsL_law0_r7 : List Cond := [Cond.instanceMethod yX4_fails, Cond.selects RX4 yX4_fails yX4_fails, Cond.code yX4_fails cX4_fails 2 (some .int), Cond.methodLink RL 72 yL_advance, Cond.static yL_advance, Cond.codeWith yL_advance cL_advance 4 (some .int) [(0, 9, 12, 13), (0, 9, 15, 28)], Cond.classLink RL 28 "java/lang/IllegalStateException", Cond.methodLink RL 25 yX3_advance, Cond.instanceMethod yX3_advance, Cond.selects RX3 yX3_advance yX3_advance, Cond.code yX3_advance cX3_advance 3 (some .int), Cond.classLink RX3 80 "java/lang/IllegalStateException", Cond.initialized "java/lang/IllegalStateException", Cond.methodLink RX3 85 yX3_passTick, Cond.instanceMethod yX3_passTick, Cond.selects RX3 yX3_passTick yX3_passTick, Cond.code yX3_passTick cX3_passTick 3 none, Cond.methodLink RX3 150 yX1_chooseMany, Cond.instanceMethod yX1_chooseMany, Cond.selects RX1 yX1_chooseMany yX1_chooseMany, Cond.code yX1_chooseMany cX1_chooseMany 3 (some .int), Cond.methodLink RX1 41 Lib.Math.min.name, Cond.static Lib.Math.min.name, Cond.initialized "java/lang/Math"]
def wsL_law0_r8 : List Cond := [Cond.code Lib.Math.min.name Lib.Math.min.code 2 (some .int), Cond.methodLink RX1 47 yX1_isInterruptDue, Cond.instanceMethod yX1_isInterruptDue, Cond.selects RX1 yX1_isInterruptDue yX1_isInterruptDue, Cond.code yX1_isInterruptDue cX1_isInterruptDue 2 (some .boolean), Cond.methodLink RX3 153 yX1_packetAt, Cond.instanceMethod yX1_packetAt, Cond.selects RX1 yX1_packetAt yX1_packetAt, Cond.code yX1_packetAt cX1_packetAt 2 (some .int), Cond.methodLink RX3 156 yX2_add, Cond.instanceMethod yX2_add, Cond.selects RX2 yX2_add yX2_add, Cond.code yX2_add cX2_add 2 none, Cond.methodLink RX2 33 Lib.Math.max.name, Cond.static Lib.Math.max.name, Cond.code Lib.Math.max.name Lib.Math.max.code 2 (some .int), Cond.methodLink RX3 160 yX1_removeFirst, Cond.instanceMethod yX1_removeFirst, Cond.selects RX1 yX1_removeFirst yX1_removeFirst, Cond.code yX1_removeFirst cX1_removeFirst 5 none, Cond.methodLink RX1 51 Lib.Math.max.name, Cond.methodLink RX3 163 yX2_askForMissing, Cond.instanceMethod yX2_askForMissing, Cond.selects RX2 yX2_askForMissing yX2_askForMissing]
def wsL_law0_r9 : List Cond := [Cond.code yX2_askForMissing cX2_askForMissing 3 none, Cond.methodLink RX2 39 yX2_holds, Cond.instanceMethod yX2_holds, Cond.selects RX2 yX2_holds yX2_holds, Cond.code yX2_holds cX2_holds 2 (some .boolean), Cond.methodLink RX2 42 yX2_ask, Cond.instanceMethod yX2_ask, Cond.selects RX2 yX2_ask yX2_ask, Cond.code yX2_ask cX2_ask 2 none, Cond.methodLink RX3 166 yX0_play, Cond.instanceMethod yX0_play, Cond.selects RX0 yX0_play yX0_play, Cond.code yX0_play cX0_play 2 none, Cond.methodLink RX0 36 yX0_canBegin, Cond.instanceMethod yX0_canBegin, Cond.selects RX0 yX0_canBegin yX0_canBegin, Cond.code yX0_canBegin cX0_canBegin 2 (some .boolean), Cond.methodLink RX0 44 yX2_holdsFrame, Cond.instanceMethod yX2_holdsFrame, Cond.selects RX2 yX2_holdsFrame yX2_holdsFrame, Cond.code yX2_holdsFrame cX2_holdsFrame 3 (some .boolean), Cond.methodLink RX0 40 yX0_giveTurn, Cond.instanceMethod yX0_giveTurn, Cond.selects RX0 yX0_giveTurn yX0_giveTurn]
def wsL_law0_r10 : List Cond := [Cond.code yX0_giveTurn cX0_giveTurn 3 none, Cond.static yX3_isFrame, Cond.code yX3_isFrame cX3_isFrame 1 (some .boolean), Cond.methodLink RX0 53 yX0_outcomeOf, Cond.instanceMethod yX0_outcomeOf, Cond.selects RX0 yX0_outcomeOf yX0_outcomeOf, Cond.code yX0_outcomeOf cX0_outcomeOf 5 (some .int), Cond.methodLink RX0 60 yX0_needBefore, Cond.static yX0_needBefore, Cond.code yX0_needBefore cX0_needBefore 2 (some .int), Cond.methodLink RX0 32 yX0_kind, Cond.static yX0_kind, Cond.code yX0_kind cX0_kind 1 (some .int), Cond.methodLink RX0 63 yX0_needBehind, Cond.static yX0_needBehind, Cond.code yX0_needBehind cX0_needBehind 1 (some .int), Cond.methodLink RX0 66 yX0_wasShown, Cond.instanceMethod yX0_wasShown, Cond.selects RX0 yX0_wasShown yX0_wasShown, Cond.code yX0_wasShown cX0_wasShown 2 (some .boolean), Cond.methodLink RX0 69 yX0_isWholeIfAny, Cond.instanceMethod yX0_isWholeIfAny, Cond.selects RX0 yX0_isWholeIfAny yX0_isWholeIfAny, Cond.code yX0_isWholeIfAny cX0_isWholeIfAny 2 (some .boolean)]
def wsL_law0_r11 : List Cond := [Cond.methodLink RX0 56 yX0_pace, Cond.instanceMethod yX0_pace, Cond.selects RX0 yX0_pace yX0_pace, Cond.code yX0_pace cX0_pace 2 (some .int), Cond.methodLink RX0 72 yX0_wholeAhead, Cond.instanceMethod yX0_wholeAhead, Cond.selects RX0 yX0_wholeAhead yX0_wholeAhead, Cond.code yX0_wholeAhead cX0_wholeAhead 3 (some .int), Cond.methodLink RL 74 yX4_advance, Cond.instanceMethod yX4_advance, Cond.selects RX4 yX4_advance yX4_advance, Cond.code yX4_advance cX4_advance 3 (some .int), Cond.methodLink RX4 124 yX4_passes, Cond.instanceMethod yX4_passes, Cond.selects RX4 yX4_passes yX4_passes, Cond.code yX4_passes cX4_passes 1 none, Cond.fieldLink RX4 115 "FilmPlayerModel" "hasBegun" "Z", Cond.fieldLink RX4 118 "FilmPlayerModel" "begun" "I", Cond.fieldLink RX4 84 "FilmPlayerModel" "next" "I", Cond.fieldLink RX4 106 "FilmPlayerModel" "turn" "I", Cond.methodLink RX4 109 yX4_drives, Cond.instanceMethod yX4_drives, Cond.selects RX4 yX4_drives yX4_drives, Cond.code yX4_drives cX4_drives 1 none]
def wsL_law0_r12 : List Cond := [Cond.fieldLink RX4 76 "FilmPlayerModel" "isPolled" "Z", Cond.methodLink RX4 80 yX4_takes, Cond.instanceMethod yX4_takes, Cond.selects RX4 yX4_takes yX4_takes, Cond.code yX4_takes cX4_takes 3 none, Cond.methodLink RX4 112 yX4_asksFor, Cond.instanceMethod yX4_asksFor, Cond.selects RX4 yX4_asksFor yX4_asksFor, Cond.code yX4_asksFor cX4_asksFor 3 none, Cond.fieldLink RX4 87 "FilmPlayerModel" "askedFor" "I", Cond.methodLink RX4 93 yX4_whole, Cond.instanceMethod yX4_whole, Cond.selects RX4 yX4_whole yX4_whole, Cond.code yX4_whole cX4_whole 2 (some .boolean), Cond.methodLink RX4 121 yX4_turns, Cond.instanceMethod yX4_turns, Cond.selects RX4 yX4_turns yX4_turns, Cond.code yX4_turns cX4_turns 4 none, Cond.methodLink RX4 96 yX4_before, Cond.static yX4_before, Cond.code yX4_before cX4_before 2 (some .int), Cond.methodLink RX4 90 yX4_kind, Cond.static yX4_kind, Cond.code yX4_kind cX4_kind 1 (some .int)]
def wsL_law0_r13 : List Cond := [Cond.methodLink RX4 99 yX4_behind, Cond.static yX4_behind, Cond.code yX4_behind cX4_behind 2 (some .int), Cond.methodLink RX4 102 yX4_fillNow, Cond.instanceMethod yX4_fillNow, Cond.selects RX4 yX4_fillNow yX4_fillNow, Cond.code yX4_fillNow cX4_fillNow 2 (some .int), Cond.methodLink RL 75 yX3_reset, Cond.instanceMethod yX3_reset, Cond.selects RX3 yX3_reset yX3_reset, Cond.code yX3_reset cX3_reset 1 (some .int), Cond.methodLink RX3 88 yX1_loseAll, Cond.instanceMethod yX1_loseAll, Cond.selects RX1 yX1_loseAll yX1_loseAll, Cond.code yX1_loseAll cX1_loseAll 2 (some .int), Cond.methodLink RL 78 yX4_reset, Cond.instanceMethod yX4_reset, Cond.selects RX4 yX4_reset yX4_reset, Cond.code yX4_reset cX4_reset 2 (some .int), Cond.methodLink RL 79 yX3_tick, Cond.instanceMethod yX3_tick, Cond.selects RX3 yX3_tick yX3_tick, Cond.code yX3_tick cX3_tick 1 (some .int), Cond.methodLink RL 82 yX4_tick]
def wsL_law0_r14 : List Cond := [Cond.instanceMethod yX4_tick, Cond.selects RX4 yX4_tick yX4_tick, Cond.code yX4_tick cX4_tick 1 (some .int), Cond.methodLink RL 83 yX3_waiting, Cond.instanceMethod yX3_waiting, Cond.selects RX3 yX3_waiting yX3_waiting, Cond.code yX3_waiting cX3_waiting 1 (some .int), Cond.methodLink RL 86 yX4_waiting, Cond.instanceMethod yX4_waiting, Cond.selects RX4 yX4_waiting yX4_waiting, Cond.code yX4_waiting cX4_waiting 1 (some .int), Cond.methodLink RL 87 yX3_lost, Cond.instanceMethod yX3_lost, Cond.selects RX3 yX3_lost yX3_lost, Cond.code yX3_lost cX3_lost 1 (some .int), Cond.methodLink RL 90 yX4_lost, Cond.instanceMethod yX4_lost, Cond.selects RX4 yX4_lost yX4_lost, Cond.code yX4_lost cX4_lost 1 (some .int), Cond.methodLink RL 91 yX3_isPolled, Cond.instanceMethod yX3_isPolled, Cond.selects RX3 yX3_isPolled yX3_isPolled, Cond.code yX3_isPolled cX3_isPolled 1 (some .boolean), Cond.methodLink RL 95 yX4_isPolled]
def wsL_law0_r15 : List Cond := [Cond.instanceMethod yX4_isPolled, Cond.selects RX4 yX4_isPolled yX4_isPolled, Cond.code yX4_isPolled cX4_isPolled 1 (some .boolean), Cond.methodLink RL 96 yL_has, Cond.static yL_has, Cond.codeWith yL_has cL_has 4 (some .int) [(0, 16, 19, 19)], Cond.methodLink RL 30 yX3_has, Cond.instanceMethod yX3_has, Cond.selects RX3 yX3_has yX3_has, Cond.code yX3_has cX3_has 2 (some .boolean), Cond.methodLink RX3 99 yX2_holds, Cond.methodLink RL 98 yX4_has, Cond.instanceMethod yX4_has, Cond.selects RX4 yX4_has yX4_has, Cond.code yX4_has cX4_has 2 (some .boolean), Cond.methodLink RL 99 yL_askedAt, Cond.static yL_askedAt, Cond.codeWith yL_askedAt cL_askedAt 4 (some .int) [(0, 9, 12, 19)], Cond.methodLink RL 34 yX3_askedAt, Cond.instanceMethod yX3_askedAt, Cond.selects RX3 yX3_askedAt yX3_askedAt, Cond.code yX3_askedAt cX3_askedAt 2 (some .int), Cond.methodLink RL 101 yX4_askedAt, Cond.instanceMethod yX4_askedAt]
def wsL_law0_r16 : List Cond := [Cond.selects RX4 yX4_askedAt yX4_askedAt, Cond.code yX4_askedAt cX4_askedAt 2 (some .int), Cond.methodLink RL 102 yX3_asked, Cond.instanceMethod yX3_asked, Cond.selects RX3 yX3_asked yX3_asked, Cond.code yX3_asked cX3_asked 1 (some .int), Cond.methodLink RL 105 yX4_asked, Cond.instanceMethod yX4_asked, Cond.selects RX4 yX4_asked yX4_asked, Cond.code yX4_asked cX4_asked 1 (some .int), Cond.methodLink RL 106 yL_kindOf, Cond.static yL_kindOf, Cond.codeWith yL_kindOf cL_kindOf 4 (some .int) [(0, 9, 12, 19)], Cond.methodLink RL 37 yX3_kindOf, Cond.instanceMethod yX3_kindOf, Cond.selects RX3 yX3_kindOf yX3_kindOf, Cond.code yX3_kindOf cX3_kindOf 2 (some .int), Cond.methodLink RX3 111 yX3_isFrame, Cond.methodLink RX3 116 yX0_kind, Cond.methodLink RL 108 yX4_kindOf, Cond.instanceMethod yX4_kindOf, Cond.selects RX4 yX4_kindOf yX4_kindOf, Cond.code yX4_kindOf cX4_kindOf 2 (some .int), Cond.methodLink RX4 127 yX4_isFrame]
def wsL_law0_r17 : List Cond := [Cond.static yX4_isFrame, Cond.code yX4_isFrame cX4_isFrame 1 (some .boolean), Cond.methodLink RL 109 yL_need, Cond.static yL_need, Cond.codeWith yL_need cL_need 5 (some .int) [(0, 10, 13, 19)], Cond.methodLink RL 40 yX3_need, Cond.instanceMethod yX3_need, Cond.selects RX3 yX3_need yX3_need, Cond.code yX3_need cX3_need 3 (some .int), Cond.methodLink RX3 120 yX0_needBehind, Cond.methodLink RX3 123 yX0_needBefore, Cond.methodLink RL 112 yX4_need, Cond.instanceMethod yX4_need, Cond.selects RX4 yX4_need yX4_need, Cond.code yX4_need cX4_need 3 (some .int), Cond.methodLink RL 113 yL_isWhole, Cond.static yL_isWhole, Cond.codeWith yL_isWhole cL_isWhole 4 (some .int) [(0, 16, 19, 19)], Cond.methodLink RL 44 yX3_isWhole, Cond.instanceMethod yX3_isWhole, Cond.selects RX3 yX3_isWhole yX3_isWhole, Cond.code yX3_isWhole cX3_isWhole 2 (some .boolean), Cond.methodLink RX3 126 yX2_holdsFrame, Cond.methodLink RL 115 yX4_isWhole]
def wsL_law0_r18 : List Cond := [Cond.instanceMethod yX4_isWhole, Cond.selects RX4 yX4_isWhole yX4_isWhole, Cond.code yX4_isWhole cX4_isWhole 2 (some .boolean), Cond.methodLink RL 116 yL_fate, Cond.static yL_fate, Cond.codeWith yL_fate cL_fate 4 (some .int) [(0, 9, 12, 19)], Cond.methodLink RL 47 yX3_fate, Cond.instanceMethod yX3_fate, Cond.selects RX3 yX3_fate yX3_fate, Cond.code yX3_fate cX3_fate 2 (some .int), Cond.methodLink RL 118 yX4_fate, Cond.instanceMethod yX4_fate, Cond.selects RX4 yX4_fate yX4_fate, Cond.code yX4_fate cX4_fate 2 (some .int), Cond.methodLink RL 119 yX3_next, Cond.instanceMethod yX3_next, Cond.selects RX3 yX3_next yX3_next, Cond.code yX3_next cX3_next 1 (some .int), Cond.methodLink RL 122 yX4_next, Cond.instanceMethod yX4_next, Cond.selects RX4 yX4_next yX4_next, Cond.code yX4_next cX4_next 1 (some .int), Cond.methodLink RL 123 yX3_turn, Cond.instanceMethod yX3_turn]
def wsL_law0_r19 : List Cond := [Cond.selects RX3 yX3_turn yX3_turn, Cond.code yX3_turn cX3_turn 1 (some .int), Cond.methodLink RL 126 yX4_turn, Cond.instanceMethod yX4_turn, Cond.selects RX4 yX4_turn yX4_turn, Cond.code yX4_turn cX4_turn 1 (some .int), Cond.methodLink RL 127 yX3_fill, Cond.instanceMethod yX3_fill, Cond.selects RX3 yX3_fill yX3_fill, Cond.code yX3_fill cX3_fill 1 (some .int), Cond.methodLink RX3 138 yX0_wholeAhead, Cond.methodLink RL 130 yX4_fill, Cond.instanceMethod yX4_fill, Cond.selects RX4 yX4_fill yX4_fill, Cond.code yX4_fill cX4_fill 1 (some .int), Cond.methodLink RL 131 yX3_shown, Cond.instanceMethod yX3_shown, Cond.selects RX3 yX3_shown yX3_shown, Cond.code yX3_shown cX3_shown 1 (some .int), Cond.methodLink RL 134 yX4_shown, Cond.instanceMethod yX4_shown, Cond.selects RX4 yX4_shown yX4_shown, Cond.code yX4_shown cX4_shown 3 (some .int), Cond.methodLink RL 135 yX3_couldBe]
def wsL_law0_r20 : List Cond := [Cond.instanceMethod yX3_couldBe, Cond.selects RX3 yX3_couldBe yX3_couldBe, Cond.code yX3_couldBe cX3_couldBe 1 (some .int), Cond.methodLink RX3 144 yX0_countShowable, Cond.instanceMethod yX0_countShowable, Cond.selects RX0 yX0_countShowable yX0_countShowable, Cond.code yX0_countShowable cX0_countShowable 3 (some .int), Cond.methodLink RX0 75 yX0_isAnchorShowable, Cond.instanceMethod yX0_isAnchorShowable, Cond.selects RX0 yX0_isAnchorShowable yX0_isAnchorShowable, Cond.code yX0_isAnchorShowable cX0_isAnchorShowable 2 (some .boolean), Cond.methodLink RL 138 yX4_couldBe, Cond.instanceMethod yX4_couldBe, Cond.selects RX4 yX4_couldBe yX4_couldBe, Cond.code yX4_couldBe cX4_couldBe 3 (some .int), Cond.methodLink RL 139 yX3_gap, Cond.instanceMethod yX3_gap, Cond.selects RX3 yX3_gap yX3_gap, Cond.code yX3_gap cX3_gap 1 (some .int), Cond.methodLink RX3 147 yX0_delay, Cond.instanceMethod yX0_delay, Cond.selects RX0 yX0_delay yX0_delay, Cond.code yX0_delay cX0_delay 1 (some .int), Cond.methodLink RL 142 yX4_gap]
def wsL_law0_r21 : List Cond := [Cond.instanceMethod yX4_gap, Cond.selects RX4 yX4_gap yX4_gap, Cond.code yX4_gap cX4_gap 1 (some .int)]
def wsL_law0 : List Cond := (wsL_law0_r1 ++ (wsL_law0_r2 ++ (wsL_law0_r3 ++ (wsL_law0_r4 ++ (wsL_law0_r5 ++ (wsL_law0_r6 ++ (wsL_law0_r7 ++ (wsL_law0_r8 ++ (wsL_law0_r9 ++ (wsL_law0_r10 ++ (wsL_law0_r11 ++ (wsL_law0_r12 ++ (wsL_law0_r13 ++ (wsL_law0_r14 ++ (wsL_law0_r15 ++ (wsL_law0_r16 ++ (wsL_law0_r17 ++ (wsL_law0_r18 ++ (wsL_law0_r19 ++ (wsL_law0_r20 ++ wsL_law0_r21)))))))))))))))))))) ++ wsX30 ++ wsX40 ++ wsX10 ++ wsX20 ++ wsX00 ++ ([] : List Cond)
def wsL_law : List Cond := wsL_law0 ++ (vx_atS RX3 40 "java/lang/IllegalArgumentException" ["java/lang/RuntimeException", "java/lang/Exception"]).filter goodWord ++ (vx_atS RX3 64 "java/lang/IndexOutOfBoundsException" ["java/lang/RuntimeException", "java/lang/Exception"]).filter goodWord ++ (vx_atS RX3 84 "java/lang/IllegalStateException" ["java/lang/RuntimeException", "java/lang/Exception"]).filter goodWord
theorem dX0_init_0 : decode cX0_init 0 = .ok (.aload_n 0, 1) := by decide +kernel
theorem dX0_init_1 : decode cX0_init 1 = .ok (.invokespecial 3, 3) := by decide +kernel
theorem dX0_init_4 : decode cX0_init 4 = .ok (.aload_n 0, 1) := by decide +kernel
theorem dX0_init_5 : decode cX0_init 5 = .ok (.bipush 100, 2) := by decide +kernel
theorem dX0_init_7 : decode cX0_init 7 = .ok (.newarray .int, 2) := by decide +kernel
theorem dX0_init_9 : decode cX0_init 9 = .ok (.putfield 9, 3) := by decide +kernel
theorem dX0_init_12 : decode cX0_init 12 = .ok (.aload_n 0, 1) := by decide +kernel
theorem dX0_init_13 : decode cX0_init 13 = .ok (.iconst 0, 1) := by decide +kernel
theorem dX0_init_14 : decode cX0_init 14 = .ok (.putfield 15, 3) := by decide +kernel
theorem dX0_init_17 : decode cX0_init 17 = .ok (.aload_n 0, 1) := by decide +kernel
theorem dX0_init_18 : decode cX0_init 18 = .ok (.iconst (-1), 1) := by decide +kernel
theorem dX0_init_19 : decode cX0_init 19 = .ok (.putfield 19, 3) := by decide +kernel
theorem dX0_init_22 : decode cX0_init 22 = .ok (.aload_n 0, 1) := by decide +kernel
theorem dX0_init_23 : decode cX0_init 23 = .ok (.iconst (-1), 1) := by decide +kernel
theorem dX0_init_24 : decode cX0_init 24 = .ok (.putfield 22, 3) := by decide +kernel
theorem dX0_init_27 : decode cX0_init 27 = .ok (.aload_n 0, 1) := by decide +kernel
theorem dX0_init_28 : decode cX0_init 28 = .ok (.iconst 0, 1) := by decide +kernel
theorem dX0_init_29 : decode cX0_init 29 = .ok (.putfield 25, 3) := by decide +kernel
theorem dX0_init_32 : decode cX0_init 32 = .ok (.aload_n 0, 1) := by decide +kernel
theorem dX0_init_33 : decode cX0_init 33 = .ok (.aload_n 1, 1) := by decide +kernel
theorem dX0_init_34 : decode cX0_init 34 = .ok (.putfield 28, 3) := by decide +kernel
theorem dX0_init_37 : decode cX0_init 37 = .ok (.return_, 1) := by decide +kernel
theorem dX0_kind_0 : decode cX0_kind 0 = .ok (.iload_n 0, 1) := by decide +kernel
theorem dX0_kind_1 : decode cX0_kind 1 = .ok (.bipush 6, 2) := by decide +kernel
theorem dX0_kind_3 : decode cX0_kind 3 = .ok (.irem, 1) := by decide +kernel
theorem dX0_kind_4 : decode cX0_kind 4 = .ok (.ifCond .ne 5, 3) := by decide +kernel
theorem dX0_kind_7 : decode cX0_kind 7 = .ok (.iconst 0, 1) := by decide +kernel
theorem dX0_kind_8 : decode cX0_kind 8 = .ok (.ireturn, 1) := by decide +kernel
theorem dX0_kind_9 : decode cX0_kind 9 = .ok (.iload_n 0, 1) := by decide +kernel
theorem dX0_kind_10 : decode cX0_kind 10 = .ok (.iconst 3, 1) := by decide +kernel
theorem dX0_kind_11 : decode cX0_kind 11 = .ok (.irem, 1) := by decide +kernel
theorem dX0_kind_12 : decode cX0_kind 12 = .ok (.ifCond .ne 7, 3) := by decide +kernel
theorem dX0_kind_15 : decode cX0_kind 15 = .ok (.iconst 1, 1) := by decide +kernel
theorem dX0_kind_16 : decode cX0_kind 16 = .ok (.goto 4, 3) := by decide +kernel
theorem dX0_kind_19 : decode cX0_kind 19 = .ok (.iconst 2, 1) := by decide +kernel
theorem dX0_kind_20 : decode cX0_kind 20 = .ok (.ireturn, 1) := by decide +kernel
set_option maxRecDepth 20000 in
theorem ggX0_needBefore_X0_kind : GoodIn wsX0_needBefore wsX0_kind := goodIn_r _ [4] (by decide +kernel) (by decide +kernel)
set_option maxRecDepth 20000 in
theorem gX0_needBefore_X0_kind : GoodIn wsX0_needBefore (va_wsS RX0 32 yX0_kind wsX0_kind) := goodIn_app (goodIn_of _ (by decide +kernel)) ggX0_needBefore_X0_kind
theorem dX0_needBefore_0 : decode cX0_needBefore 0 = .ok (.iload_n 0, 1) := by decide +kernel
theorem dX0_needBefore_1 : decode cX0_needBefore 1 = .ok (.invokestatic 32, 3) := by decide +kernel
theorem dX0_needBefore_4 : decode cX0_needBefore 4 = .ok (.istore_n 1, 1) := by decide +kernel
theorem dX0_needBefore_5 : decode cX0_needBefore 5 = .ok (.iload_n 1, 1) := by decide +kernel
theorem dX0_needBefore_6 : decode cX0_needBefore 6 = .ok (.ifCond .ne 5, 3) := by decide +kernel
theorem dX0_needBefore_9 : decode cX0_needBefore 9 = .ok (.iconst (-1), 1) := by decide +kernel
theorem dX0_needBefore_10 : decode cX0_needBefore 10 = .ok (.ireturn, 1) := by decide +kernel
theorem dX0_needBefore_11 : decode cX0_needBefore 11 = .ok (.iload_n 1, 1) := by decide +kernel
theorem dX0_needBefore_12 : decode cX0_needBefore 12 = .ok (.iconst 1, 1) := by decide +kernel
theorem dX0_needBefore_13 : decode cX0_needBefore 13 = .ok (.if_icmp .ne 9, 3) := by decide +kernel
theorem dX0_needBefore_16 : decode cX0_needBefore 16 = .ok (.iload_n 0, 1) := by decide +kernel
theorem dX0_needBefore_17 : decode cX0_needBefore 17 = .ok (.iconst 3, 1) := by decide +kernel
theorem dX0_needBefore_18 : decode cX0_needBefore 18 = .ok (.isub, 1) := by decide +kernel
theorem dX0_needBefore_19 : decode cX0_needBefore 19 = .ok (.goto 8, 3) := by decide +kernel
theorem dX0_needBefore_22 : decode cX0_needBefore 22 = .ok (.iload_n 0, 1) := by decide +kernel
theorem dX0_needBefore_23 : decode cX0_needBefore 23 = .ok (.iload_n 0, 1) := by decide +kernel
theorem dX0_needBefore_24 : decode cX0_needBefore 24 = .ok (.iconst 3, 1) := by decide +kernel
theorem dX0_needBefore_25 : decode cX0_needBefore 25 = .ok (.irem, 1) := by decide +kernel
theorem dX0_needBefore_26 : decode cX0_needBefore 26 = .ok (.isub, 1) := by decide +kernel
theorem dX0_needBefore_27 : decode cX0_needBefore 27 = .ok (.ireturn, 1) := by decide +kernel
set_option maxRecDepth 20000 in
theorem ggX0_needBehind_X0_kind : GoodIn wsX0_needBehind wsX0_kind := goodIn_r _ [4] (by decide +kernel) (by decide +kernel)
set_option maxRecDepth 20000 in
theorem gX0_needBehind_X0_kind : GoodIn wsX0_needBehind (va_wsS RX0 32 yX0_kind wsX0_kind) := goodIn_app (goodIn_of _ (by decide +kernel)) ggX0_needBehind_X0_kind
theorem dX0_needBehind_0 : decode cX0_needBehind 0 = .ok (.iload_n 0, 1) := by decide +kernel
theorem dX0_needBehind_1 : decode cX0_needBehind 1 = .ok (.invokestatic 32, 3) := by decide +kernel
theorem dX0_needBehind_4 : decode cX0_needBehind 4 = .ok (.iconst 2, 1) := by decide +kernel
theorem dX0_needBehind_5 : decode cX0_needBehind 5 = .ok (.if_icmp .ne 13, 3) := by decide +kernel
theorem dX0_needBehind_8 : decode cX0_needBehind 8 = .ok (.iload_n 0, 1) := by decide +kernel
theorem dX0_needBehind_9 : decode cX0_needBehind 9 = .ok (.iload_n 0, 1) := by decide +kernel
theorem dX0_needBehind_10 : decode cX0_needBehind 10 = .ok (.iconst 3, 1) := by decide +kernel
theorem dX0_needBehind_11 : decode cX0_needBehind 11 = .ok (.irem, 1) := by decide +kernel
theorem dX0_needBehind_12 : decode cX0_needBehind 12 = .ok (.isub, 1) := by decide +kernel
theorem dX0_needBehind_13 : decode cX0_needBehind 13 = .ok (.iconst 3, 1) := by decide +kernel
theorem dX0_needBehind_14 : decode cX0_needBehind 14 = .ok (.iadd, 1) := by decide +kernel
theorem dX0_needBehind_15 : decode cX0_needBehind 15 = .ok (.goto 4, 3) := by decide +kernel
theorem dX0_needBehind_18 : decode cX0_needBehind 18 = .ok (.iconst (-1), 1) := by decide +kernel
theorem dX0_needBehind_19 : decode cX0_needBehind 19 = .ok (.ireturn, 1) := by decide +kernel
set_option maxRecDepth 20000 in
theorem ggX0_play_X0_canBegin : GoodIn wsX0_play wsX0_canBegin := goodIn_r _ [7, 8, 9, 10, 11, 12, 13, 14, 54, 55, 56, 57, 58, 59, 60, 61, 62, 63, 64] (by decide +kernel) (by decide +kernel)
set_option maxRecDepth 20000 in
theorem gX0_play_X0_canBegin : GoodIn wsX0_play (wsV RX0 36 RX0 yX0_canBegin wsX0_canBegin) := goodIn_app (goodIn_of _ (by decide +kernel)) ggX0_play_X0_canBegin
set_option maxRecDepth 20000 in
theorem ggX0_play_X0_giveTurn : GoodIn wsX0_play wsX0_giveTurn := goodIn_r _ [18, 19, 20, 21, 2, 22, 23, 24, 25, 26, 27, 6, 28, 8, 9, 10, 11, 12, 13, 14, 29, 30, 31, 32, 33, 34, 35, 36, 37, 38, 39, 40, 41, 42, 43, 44, 45, 46, 47, 48, 49, 50, 51, 52, 53, 54, 55, 56, 57, 58, 59, 60, 61, 62, 63, 64] (by decide +kernel) (by decide +kernel)
set_option maxRecDepth 20000 in
theorem gX0_play_X0_giveTurn : GoodIn wsX0_play (wsV RX0 40 RX0 yX0_giveTurn wsX0_giveTurn) := goodIn_app (goodIn_of _ (by decide +kernel)) ggX0_play_X0_giveTurn
theorem dX0_play_0 : decode cX0_play 0 = .ok (.aload_n 0, 1) := by decide +kernel
theorem dX0_play_1 : decode cX0_play 1 = .ok (.getfield 19, 3) := by decide +kernel
theorem dX0_play_4 : decode cX0_play 4 = .ok (.iconst (-1), 1) := by decide +kernel
theorem dX0_play_5 : decode cX0_play 5 = .ok (.if_icmp .ne 20, 3) := by decide +kernel
theorem dX0_play_8 : decode cX0_play 8 = .ok (.aload_n 0, 1) := by decide +kernel
theorem dX0_play_9 : decode cX0_play 9 = .ok (.invokevirtual 36, 3) := by decide +kernel
theorem dX0_play_12 : decode cX0_play 12 = .ok (.ifCond .eq 13, 3) := by decide +kernel
theorem dX0_play_15 : decode cX0_play 15 = .ok (.aload_n 0, 1) := by decide +kernel
theorem dX0_play_16 : decode cX0_play 16 = .ok (.iload_n 1, 1) := by decide +kernel
theorem dX0_play_17 : decode cX0_play 17 = .ok (.putfield 19, 3) := by decide +kernel
theorem dX0_play_20 : decode cX0_play 20 = .ok (.aload_n 0, 1) := by decide +kernel
theorem dX0_play_21 : decode cX0_play 21 = .ok (.iload_n 1, 1) := by decide +kernel
theorem dX0_play_22 : decode cX0_play 22 = .ok (.putfield 22, 3) := by decide +kernel
theorem dX0_play_25 : decode cX0_play 25 = .ok (.aload_n 0, 1) := by decide +kernel
theorem dX0_play_26 : decode cX0_play 26 = .ok (.getfield 22, 3) := by decide +kernel
theorem dX0_play_29 : decode cX0_play 29 = .ok (.iload_n 1, 1) := by decide +kernel
theorem dX0_play_30 : decode cX0_play 30 = .ok (.if_icmp .ne 8, 3) := by decide +kernel
theorem dX0_play_33 : decode cX0_play 33 = .ok (.aload_n 0, 1) := by decide +kernel
theorem dX0_play_34 : decode cX0_play 34 = .ok (.iload_n 1, 1) := by decide +kernel
theorem dX0_play_35 : decode cX0_play 35 = .ok (.invokevirtual 40, 3) := by decide +kernel
theorem dX0_play_38 : decode cX0_play 38 = .ok (.return_, 1) := by decide +kernel
set_option maxRecDepth 20000 in
theorem ggX0_canBegin_X2_holdsFrame : GoodIn wsX0_canBegin wsX2_holdsFrame := goodIn_r _ [6, 7, 14, 15, 16, 17, 18] (by decide +kernel) (by decide +kernel)
set_option maxRecDepth 20000 in
theorem gX0_canBegin_X2_holdsFrame : GoodIn wsX0_canBegin (wsV RX0 44 RX2 yX2_holdsFrame wsX2_holdsFrame) := goodIn_app (goodIn_of _ (by decide +kernel)) ggX0_canBegin_X2_holdsFrame
theorem dX0_canBegin_0 : decode cX0_canBegin 0 = .ok (.iconst 0, 1) := by decide +kernel
theorem dX0_canBegin_1 : decode cX0_canBegin 1 = .ok (.istore_n 1, 1) := by decide +kernel
theorem dX0_canBegin_2 : decode cX0_canBegin 2 = .ok (.iload_n 1, 1) := by decide +kernel
theorem dX0_canBegin_3 : decode cX0_canBegin 3 = .ok (.iconst 3, 1) := by decide +kernel
theorem dX0_canBegin_4 : decode cX0_canBegin 4 = .ok (.if_icmp .ge 22, 3) := by decide +kernel
theorem dX0_canBegin_7 : decode cX0_canBegin 7 = .ok (.aload_n 0, 1) := by decide +kernel
theorem dX0_canBegin_8 : decode cX0_canBegin 8 = .ok (.getfield 28, 3) := by decide +kernel
theorem dX0_canBegin_11 : decode cX0_canBegin 11 = .ok (.iload_n 1, 1) := by decide +kernel
theorem dX0_canBegin_12 : decode cX0_canBegin 12 = .ok (.invokevirtual 44, 3) := by decide +kernel
theorem dX0_canBegin_15 : decode cX0_canBegin 15 = .ok (.ifCond .ne 5, 3) := by decide +kernel
theorem dX0_canBegin_18 : decode cX0_canBegin 18 = .ok (.iconst 0, 1) := by decide +kernel
theorem dX0_canBegin_19 : decode cX0_canBegin 19 = .ok (.ireturn, 1) := by decide +kernel
theorem dX0_canBegin_20 : decode cX0_canBegin 20 = .ok (.iinc 1 1, 3) := by decide +kernel
theorem dX0_canBegin_23 : decode cX0_canBegin 23 = .ok (.goto (-21), 3) := by decide +kernel
theorem dX0_canBegin_26 : decode cX0_canBegin 26 = .ok (.iconst 1, 1) := by decide +kernel
theorem dX0_canBegin_27 : decode cX0_canBegin 27 = .ok (.ireturn, 1) := by decide +kernel
set_option maxRecDepth 20000 in
theorem ggX0_giveTurn_X3_isFrame : GoodIn wsX0_giveTurn wsX3_isFrame := goodIn_r _ [7] (by decide +kernel) (by decide +kernel)
set_option maxRecDepth 20000 in
theorem gX0_giveTurn_X3_isFrame_n50 : GoodIn wsX0_giveTurn (wsX3_isFrame) := ggX0_giveTurn_X3_isFrame
set_option maxRecDepth 20000 in
theorem ggX0_giveTurn_X0_outcomeOf : GoodIn wsX0_giveTurn wsX0_outcomeOf := goodIn_r _ [12, 13, 14, 15, 16, 17, 18, 19, 20, 21, 11, 22, 23, 24, 25, 26, 27, 28, 29, 30, 31, 32, 2, 5, 6, 7, 33, 34, 35, 36, 45, 46, 47, 48, 49, 50, 51, 52, 53, 54, 55] (by decide +kernel) (by decide +kernel)
set_option maxRecDepth 20000 in
theorem gX0_giveTurn_X0_outcomeOf : GoodIn wsX0_giveTurn (wsV RX0 53 RX0 yX0_outcomeOf wsX0_outcomeOf) := goodIn_app (goodIn_of _ (by decide +kernel)) ggX0_giveTurn_X0_outcomeOf
set_option maxRecDepth 20000 in
theorem ggX0_giveTurn_X0_pace : GoodIn wsX0_giveTurn wsX0_pace := goodIn_r _ [40, 41, 42, 43, 11, 44, 1, 13, 14, 15, 16, 17, 18, 19, 45, 46, 47, 48, 49, 50, 51, 52, 53, 54, 55] (by decide +kernel) (by decide +kernel)
set_option maxRecDepth 20000 in
theorem gX0_giveTurn_X0_pace : GoodIn wsX0_giveTurn (wsV RX0 56 RX0 yX0_pace wsX0_pace) := goodIn_app (goodIn_of _ (by decide +kernel)) ggX0_giveTurn_X0_pace
theorem dX0_giveTurn_0 : decode cX0_giveTurn 0 = .ok (.aload_n 0, 1) := by decide +kernel
theorem dX0_giveTurn_1 : decode cX0_giveTurn 1 = .ok (.getfield 15, 3) := by decide +kernel
theorem dX0_giveTurn_4 : decode cX0_giveTurn 4 = .ok (.invokestatic 50, 3) := by decide +kernel
theorem dX0_giveTurn_7 : decode cX0_giveTurn 7 = .ok (.ifCond .ne 4, 3) := by decide +kernel
theorem dX0_giveTurn_10 : decode cX0_giveTurn 10 = .ok (.return_, 1) := by decide +kernel
theorem dX0_giveTurn_11 : decode cX0_giveTurn 11 = .ok (.aload_n 0, 1) := by decide +kernel
theorem dX0_giveTurn_12 : decode cX0_giveTurn 12 = .ok (.aload_n 0, 1) := by decide +kernel
theorem dX0_giveTurn_13 : decode cX0_giveTurn 13 = .ok (.getfield 15, 3) := by decide +kernel
theorem dX0_giveTurn_16 : decode cX0_giveTurn 16 = .ok (.invokevirtual 53, 3) := by decide +kernel
theorem dX0_giveTurn_19 : decode cX0_giveTurn 19 = .ok (.istore_n 2, 1) := by decide +kernel
theorem dX0_giveTurn_20 : decode cX0_giveTurn 20 = .ok (.aload_n 0, 1) := by decide +kernel
theorem dX0_giveTurn_21 : decode cX0_giveTurn 21 = .ok (.getfield 9, 3) := by decide +kernel
theorem dX0_giveTurn_24 : decode cX0_giveTurn 24 = .ok (.aload_n 0, 1) := by decide +kernel
theorem dX0_giveTurn_25 : decode cX0_giveTurn 25 = .ok (.getfield 15, 3) := by decide +kernel
theorem dX0_giveTurn_28 : decode cX0_giveTurn 28 = .ok (.iload_n 2, 1) := by decide +kernel
theorem dX0_giveTurn_29 : decode cX0_giveTurn 29 = .ok (.iastore, 1) := by decide +kernel
theorem dX0_giveTurn_30 : decode cX0_giveTurn 30 = .ok (.iload_n 2, 1) := by decide +kernel
theorem dX0_giveTurn_31 : decode cX0_giveTurn 31 = .ok (.iconst 1, 1) := by decide +kernel
theorem dX0_giveTurn_32 : decode cX0_giveTurn 32 = .ok (.if_icmp .ne 13, 3) := by decide +kernel
theorem dX0_giveTurn_35 : decode cX0_giveTurn 35 = .ok (.aload_n 0, 1) := by decide +kernel
theorem dX0_giveTurn_36 : decode cX0_giveTurn 36 = .ok (.dup, 1) := by decide +kernel
theorem dX0_giveTurn_37 : decode cX0_giveTurn 37 = .ok (.getfield 25, 3) := by decide +kernel
theorem dX0_giveTurn_40 : decode cX0_giveTurn 40 = .ok (.iconst 1, 1) := by decide +kernel
theorem dX0_giveTurn_41 : decode cX0_giveTurn 41 = .ok (.iadd, 1) := by decide +kernel
theorem dX0_giveTurn_42 : decode cX0_giveTurn 42 = .ok (.putfield 25, 3) := by decide +kernel
theorem dX0_giveTurn_45 : decode cX0_giveTurn 45 = .ok (.aload_n 0, 1) := by decide +kernel
theorem dX0_giveTurn_46 : decode cX0_giveTurn 46 = .ok (.dup, 1) := by decide +kernel
theorem dX0_giveTurn_47 : decode cX0_giveTurn 47 = .ok (.getfield 15, 3) := by decide +kernel
theorem dX0_giveTurn_50 : decode cX0_giveTurn 50 = .ok (.iconst 1, 1) := by decide +kernel
theorem dX0_giveTurn_51 : decode cX0_giveTurn 51 = .ok (.iadd, 1) := by decide +kernel
theorem dX0_giveTurn_52 : decode cX0_giveTurn 52 = .ok (.putfield 15, 3) := by decide +kernel
theorem dX0_giveTurn_55 : decode cX0_giveTurn 55 = .ok (.aload_n 0, 1) := by decide +kernel
theorem dX0_giveTurn_56 : decode cX0_giveTurn 56 = .ok (.aload_n 0, 1) := by decide +kernel
theorem dX0_giveTurn_57 : decode cX0_giveTurn 57 = .ok (.getfield 15, 3) := by decide +kernel
theorem dX0_giveTurn_60 : decode cX0_giveTurn 60 = .ok (.bipush 100, 2) := by decide +kernel
theorem dX0_giveTurn_62 : decode cX0_giveTurn 62 = .ok (.if_icmp .ge 12, 3) := by decide +kernel
theorem dX0_giveTurn_65 : decode cX0_giveTurn 65 = .ok (.iload_n 1, 1) := by decide +kernel
theorem dX0_giveTurn_66 : decode cX0_giveTurn 66 = .ok (.aload_n 0, 1) := by decide +kernel
theorem dX0_giveTurn_67 : decode cX0_giveTurn 67 = .ok (.invokevirtual 56, 3) := by decide +kernel
theorem dX0_giveTurn_70 : decode cX0_giveTurn 70 = .ok (.iadd, 1) := by decide +kernel
theorem dX0_giveTurn_71 : decode cX0_giveTurn 71 = .ok (.goto 4, 3) := by decide +kernel
theorem dX0_giveTurn_74 : decode cX0_giveTurn 74 = .ok (.iconst (-1), 1) := by decide +kernel
theorem dX0_giveTurn_75 : decode cX0_giveTurn 75 = .ok (.putfield 22, 3) := by decide +kernel
theorem dX0_giveTurn_78 : decode cX0_giveTurn 78 = .ok (.return_, 1) := by decide +kernel
set_option maxRecDepth 20000 in
theorem ggX0_outcomeOf_X2_holdsFrame : GoodIn wsX0_outcomeOf wsX2_holdsFrame := goodIn_r _ [6, 7, 36, 37, 38, 39, 40] (by decide +kernel) (by decide +kernel)
set_option maxRecDepth 20000 in
theorem gX0_outcomeOf_X2_holdsFrame : GoodIn wsX0_outcomeOf (wsV RX0 44 RX2 yX2_holdsFrame wsX2_holdsFrame) := goodIn_app (goodIn_of _ (by decide +kernel)) ggX0_outcomeOf_X2_holdsFrame
set_option maxRecDepth 20000 in
theorem ggX0_outcomeOf_X0_needBefore : GoodIn wsX0_outcomeOf wsX0_needBefore := goodIn_r _ [11, 12, 13, 10, 14] (by decide +kernel) (by decide +kernel)
set_option maxRecDepth 20000 in
theorem gX0_outcomeOf_X0_needBefore : GoodIn wsX0_outcomeOf (va_wsS RX0 60 yX0_needBefore wsX0_needBefore) := goodIn_app (goodIn_of _ (by decide +kernel)) ggX0_outcomeOf_X0_needBefore
set_option maxRecDepth 20000 in
theorem ggX0_outcomeOf_X0_needBehind : GoodIn wsX0_outcomeOf wsX0_needBehind := goodIn_r _ [17, 12, 13, 10, 14] (by decide +kernel) (by decide +kernel)
set_option maxRecDepth 20000 in
theorem gX0_outcomeOf_X0_needBehind : GoodIn wsX0_outcomeOf (va_wsS RX0 63 yX0_needBehind wsX0_needBehind) := goodIn_app (goodIn_of _ (by decide +kernel)) ggX0_outcomeOf_X0_needBehind
set_option maxRecDepth 20000 in
theorem ggX0_outcomeOf_X0_wasShown : GoodIn wsX0_outcomeOf wsX0_wasShown := goodIn_r _ [21, 22, 23, 24, 25, 30, 31, 32, 33, 34, 35] (by decide +kernel) (by decide +kernel)
set_option maxRecDepth 20000 in
theorem gX0_outcomeOf_X0_wasShown : GoodIn wsX0_outcomeOf (wsV RX0 66 RX0 yX0_wasShown wsX0_wasShown) := goodIn_app (goodIn_of _ (by decide +kernel)) ggX0_outcomeOf_X0_wasShown
set_option maxRecDepth 20000 in
theorem ggX0_outcomeOf_X0_isWholeIfAny : GoodIn wsX0_outcomeOf wsX0_isWholeIfAny := goodIn_r _ [29, 1, 2, 3, 4, 5, 6, 7, 30, 31, 32, 33, 34, 35, 36, 37, 38, 39, 40] (by decide +kernel) (by decide +kernel)
set_option maxRecDepth 20000 in
theorem gX0_outcomeOf_X0_isWholeIfAny : GoodIn wsX0_outcomeOf (wsV RX0 69 RX0 yX0_isWholeIfAny wsX0_isWholeIfAny) := goodIn_app (goodIn_of _ (by decide +kernel)) ggX0_outcomeOf_X0_isWholeIfAny
theorem dX0_outcomeOf_0 : decode cX0_outcomeOf 0 = .ok (.aload_n 0, 1) := by decide +kernel
theorem dX0_outcomeOf_1 : decode cX0_outcomeOf 1 = .ok (.getfield 28, 3) := by decide +kernel
theorem dX0_outcomeOf_4 : decode cX0_outcomeOf 4 = .ok (.iload_n 1, 1) := by decide +kernel
theorem dX0_outcomeOf_5 : decode cX0_outcomeOf 5 = .ok (.invokevirtual 44, 3) := by decide +kernel
theorem dX0_outcomeOf_8 : decode cX0_outcomeOf 8 = .ok (.ifCond .ne 5, 3) := by decide +kernel
theorem dX0_outcomeOf_11 : decode cX0_outcomeOf 11 = .ok (.iconst 2, 1) := by decide +kernel
theorem dX0_outcomeOf_12 : decode cX0_outcomeOf 12 = .ok (.ireturn, 1) := by decide +kernel
theorem dX0_outcomeOf_13 : decode cX0_outcomeOf 13 = .ok (.iload_n 1, 1) := by decide +kernel
theorem dX0_outcomeOf_14 : decode cX0_outcomeOf 14 = .ok (.invokestatic 60, 3) := by decide +kernel
theorem dX0_outcomeOf_17 : decode cX0_outcomeOf 17 = .ok (.istore_n 2, 1) := by decide +kernel
theorem dX0_outcomeOf_18 : decode cX0_outcomeOf 18 = .ok (.iload_n 1, 1) := by decide +kernel
theorem dX0_outcomeOf_19 : decode cX0_outcomeOf 19 = .ok (.invokestatic 63, 3) := by decide +kernel
theorem dX0_outcomeOf_22 : decode cX0_outcomeOf 22 = .ok (.istore_n 3, 1) := by decide +kernel
theorem dX0_outcomeOf_23 : decode cX0_outcomeOf 23 = .ok (.iload_n 2, 1) := by decide +kernel
theorem dX0_outcomeOf_24 : decode cX0_outcomeOf 24 = .ok (.iconst (-1), 1) := by decide +kernel
theorem dX0_outcomeOf_25 : decode cX0_outcomeOf 25 = .ok (.if_icmp .eq 11, 3) := by decide +kernel
theorem dX0_outcomeOf_28 : decode cX0_outcomeOf 28 = .ok (.aload_n 0, 1) := by decide +kernel
theorem dX0_outcomeOf_29 : decode cX0_outcomeOf 29 = .ok (.iload_n 2, 1) := by decide +kernel
theorem dX0_outcomeOf_30 : decode cX0_outcomeOf 30 = .ok (.invokevirtual 66, 3) := by decide +kernel
theorem dX0_outcomeOf_33 : decode cX0_outcomeOf 33 = .ok (.ifCond .eq 15, 3) := by decide +kernel
theorem dX0_outcomeOf_36 : decode cX0_outcomeOf 36 = .ok (.aload_n 0, 1) := by decide +kernel
theorem dX0_outcomeOf_37 : decode cX0_outcomeOf 37 = .ok (.iload_n 3, 1) := by decide +kernel
theorem dX0_outcomeOf_38 : decode cX0_outcomeOf 38 = .ok (.invokevirtual 69, 3) := by decide +kernel
theorem dX0_outcomeOf_41 : decode cX0_outcomeOf 41 = .ok (.ifCond .eq 7, 3) := by decide +kernel
theorem dX0_outcomeOf_44 : decode cX0_outcomeOf 44 = .ok (.iconst 1, 1) := by decide +kernel
theorem dX0_outcomeOf_45 : decode cX0_outcomeOf 45 = .ok (.goto 4, 3) := by decide +kernel
theorem dX0_outcomeOf_48 : decode cX0_outcomeOf 48 = .ok (.iconst 0, 1) := by decide +kernel
theorem dX0_outcomeOf_49 : decode cX0_outcomeOf 49 = .ok (.istore 4, 2) := by decide +kernel
theorem dX0_outcomeOf_51 : decode cX0_outcomeOf 51 = .ok (.iload 4, 2) := by decide +kernel
theorem dX0_outcomeOf_53 : decode cX0_outcomeOf 53 = .ok (.ifCond .eq 7, 3) := by decide +kernel
theorem dX0_outcomeOf_56 : decode cX0_outcomeOf 56 = .ok (.iconst 1, 1) := by decide +kernel
theorem dX0_outcomeOf_57 : decode cX0_outcomeOf 57 = .ok (.goto 4, 3) := by decide +kernel
theorem dX0_outcomeOf_60 : decode cX0_outcomeOf 60 = .ok (.iconst 3, 1) := by decide +kernel
theorem dX0_outcomeOf_61 : decode cX0_outcomeOf 61 = .ok (.ireturn, 1) := by decide +kernel
set_option maxRecDepth 20000 in
theorem ggX0_wasShown_X3_isFrame : GoodIn wsX0_wasShown wsX3_isFrame := goodIn_r _ [4] (by decide +kernel) (by decide +kernel)
set_option maxRecDepth 20000 in
theorem gX0_wasShown_X3_isFrame_n50 : GoodIn wsX0_wasShown (wsX3_isFrame) := ggX0_wasShown_X3_isFrame
theorem dX0_wasShown_0 : decode cX0_wasShown 0 = .ok (.iload_n 1, 1) := by decide +kernel
theorem dX0_wasShown_1 : decode cX0_wasShown 1 = .ok (.invokestatic 50, 3) := by decide +kernel
theorem dX0_wasShown_4 : decode cX0_wasShown 4 = .ok (.ifCond .eq 17, 3) := by decide +kernel
theorem dX0_wasShown_7 : decode cX0_wasShown 7 = .ok (.aload_n 0, 1) := by decide +kernel
theorem dX0_wasShown_8 : decode cX0_wasShown 8 = .ok (.getfield 9, 3) := by decide +kernel
theorem dX0_wasShown_11 : decode cX0_wasShown 11 = .ok (.iload_n 1, 1) := by decide +kernel
theorem dX0_wasShown_12 : decode cX0_wasShown 12 = .ok (.iaload, 1) := by decide +kernel
theorem dX0_wasShown_13 : decode cX0_wasShown 13 = .ok (.iconst 1, 1) := by decide +kernel
theorem dX0_wasShown_14 : decode cX0_wasShown 14 = .ok (.if_icmp .ne 7, 3) := by decide +kernel
theorem dX0_wasShown_17 : decode cX0_wasShown 17 = .ok (.iconst 1, 1) := by decide +kernel
theorem dX0_wasShown_18 : decode cX0_wasShown 18 = .ok (.goto 4, 3) := by decide +kernel
theorem dX0_wasShown_21 : decode cX0_wasShown 21 = .ok (.iconst 0, 1) := by decide +kernel
theorem dX0_wasShown_22 : decode cX0_wasShown 22 = .ok (.ireturn, 1) := by decide +kernel
set_option maxRecDepth 20000 in
theorem ggX0_isWholeIfAny_X2_holdsFrame : GoodIn wsX0_isWholeIfAny wsX2_holdsFrame := goodIn_r _ [6, 7, 14, 15, 16, 17, 18] (by decide +kernel) (by decide +kernel)
set_option maxRecDepth 20000 in
theorem gX0_isWholeIfAny_X2_holdsFrame : GoodIn wsX0_isWholeIfAny (wsV RX0 44 RX2 yX2_holdsFrame wsX2_holdsFrame) := goodIn_app (goodIn_of _ (by decide +kernel)) ggX0_isWholeIfAny_X2_holdsFrame
theorem dX0_isWholeIfAny_0 : decode cX0_isWholeIfAny 0 = .ok (.iload_n 1, 1) := by decide +kernel
theorem dX0_isWholeIfAny_1 : decode cX0_isWholeIfAny 1 = .ok (.iconst (-1), 1) := by decide +kernel
theorem dX0_isWholeIfAny_2 : decode cX0_isWholeIfAny 2 = .ok (.if_icmp .eq 14, 3) := by decide +kernel
theorem dX0_isWholeIfAny_5 : decode cX0_isWholeIfAny 5 = .ok (.aload_n 0, 1) := by decide +kernel
theorem dX0_isWholeIfAny_6 : decode cX0_isWholeIfAny 6 = .ok (.getfield 28, 3) := by decide +kernel
theorem dX0_isWholeIfAny_9 : decode cX0_isWholeIfAny 9 = .ok (.iload_n 1, 1) := by decide +kernel
theorem dX0_isWholeIfAny_10 : decode cX0_isWholeIfAny 10 = .ok (.invokevirtual 44, 3) := by decide +kernel
theorem dX0_isWholeIfAny_13 : decode cX0_isWholeIfAny 13 = .ok (.ifCond .eq 7, 3) := by decide +kernel
theorem dX0_isWholeIfAny_16 : decode cX0_isWholeIfAny 16 = .ok (.iconst 1, 1) := by decide +kernel
theorem dX0_isWholeIfAny_17 : decode cX0_isWholeIfAny 17 = .ok (.goto 4, 3) := by decide +kernel
theorem dX0_isWholeIfAny_20 : decode cX0_isWholeIfAny 20 = .ok (.iconst 0, 1) := by decide +kernel
theorem dX0_isWholeIfAny_21 : decode cX0_isWholeIfAny 21 = .ok (.ireturn, 1) := by decide +kernel
set_option maxRecDepth 20000 in
theorem ggX0_pace_X0_wholeAhead : GoodIn wsX0_pace wsX0_wholeAhead := goodIn_r _ [5, 6, 7, 8, 9, 10, 11, 12, 13, 14, 15, 16, 17, 18, 19, 20, 21, 22, 23, 24] (by decide +kernel) (by decide +kernel)
set_option maxRecDepth 20000 in
theorem gX0_pace_X0_wholeAhead : GoodIn wsX0_pace (wsV RX0 72 RX0 yX0_wholeAhead wsX0_wholeAhead) := goodIn_app (goodIn_of _ (by decide +kernel)) ggX0_pace_X0_wholeAhead
theorem dX0_pace_0 : decode cX0_pace 0 = .ok (.aload_n 0, 1) := by decide +kernel
theorem dX0_pace_1 : decode cX0_pace 1 = .ok (.invokevirtual 72, 3) := by decide +kernel
theorem dX0_pace_4 : decode cX0_pace 4 = .ok (.istore_n 1, 1) := by decide +kernel
theorem dX0_pace_5 : decode cX0_pace 5 = .ok (.iload_n 1, 1) := by decide +kernel
theorem dX0_pace_6 : decode cX0_pace 6 = .ok (.bipush 6, 2) := by decide +kernel
theorem dX0_pace_8 : decode cX0_pace 8 = .ok (.if_icmp .lt 6, 3) := by decide +kernel
theorem dX0_pace_11 : decode cX0_pace 11 = .ok (.bipush 9, 2) := by decide +kernel
theorem dX0_pace_13 : decode cX0_pace 13 = .ok (.ireturn, 1) := by decide +kernel
theorem dX0_pace_14 : decode cX0_pace 14 = .ok (.iload_n 1, 1) := by decide +kernel
theorem dX0_pace_15 : decode cX0_pace 15 = .ok (.iconst 1, 1) := by decide +kernel
theorem dX0_pace_16 : decode cX0_pace 16 = .ok (.if_icmp .gt 8, 3) := by decide +kernel
theorem dX0_pace_19 : decode cX0_pace 19 = .ok (.bipush 11, 2) := by decide +kernel
theorem dX0_pace_21 : decode cX0_pace 21 = .ok (.goto 5, 3) := by decide +kernel
theorem dX0_pace_24 : decode cX0_pace 24 = .ok (.bipush 10, 2) := by decide +kernel
theorem dX0_pace_26 : decode cX0_pace 26 = .ok (.ireturn, 1) := by decide +kernel
set_option maxRecDepth 20000 in
theorem ggX0_wholeAhead_X2_holdsFrame : GoodIn wsX0_wholeAhead wsX2_holdsFrame := goodIn_r _ [7, 8, 15, 16, 17, 18, 19] (by decide +kernel) (by decide +kernel)
set_option maxRecDepth 20000 in
theorem gX0_wholeAhead_X2_holdsFrame : GoodIn wsX0_wholeAhead (wsV RX0 44 RX2 yX2_holdsFrame wsX2_holdsFrame) := goodIn_app (goodIn_of _ (by decide +kernel)) ggX0_wholeAhead_X2_holdsFrame
theorem dX0_wholeAhead_0 : decode cX0_wholeAhead 0 = .ok (.iconst 0, 1) := by decide +kernel
theorem dX0_wholeAhead_1 : decode cX0_wholeAhead 1 = .ok (.istore_n 1, 1) := by decide +kernel
theorem dX0_wholeAhead_2 : decode cX0_wholeAhead 2 = .ok (.aload_n 0, 1) := by decide +kernel
theorem dX0_wholeAhead_3 : decode cX0_wholeAhead 3 = .ok (.getfield 15, 3) := by decide +kernel
theorem dX0_wholeAhead_6 : decode cX0_wholeAhead 6 = .ok (.istore_n 2, 1) := by decide +kernel
theorem dX0_wholeAhead_7 : decode cX0_wholeAhead 7 = .ok (.iload_n 2, 1) := by decide +kernel
theorem dX0_wholeAhead_8 : decode cX0_wholeAhead 8 = .ok (.bipush 100, 2) := by decide +kernel
theorem dX0_wholeAhead_10 : decode cX0_wholeAhead 10 = .ok (.if_icmp .ge 23, 3) := by decide +kernel
theorem dX0_wholeAhead_13 : decode cX0_wholeAhead 13 = .ok (.aload_n 0, 1) := by decide +kernel
theorem dX0_wholeAhead_14 : decode cX0_wholeAhead 14 = .ok (.getfield 28, 3) := by decide +kernel
theorem dX0_wholeAhead_17 : decode cX0_wholeAhead 17 = .ok (.iload_n 2, 1) := by decide +kernel
theorem dX0_wholeAhead_18 : decode cX0_wholeAhead 18 = .ok (.invokevirtual 44, 3) := by decide +kernel
theorem dX0_wholeAhead_21 : decode cX0_wholeAhead 21 = .ok (.ifCond .eq 12, 3) := by decide +kernel
theorem dX0_wholeAhead_24 : decode cX0_wholeAhead 24 = .ok (.iinc 1 1, 3) := by decide +kernel
theorem dX0_wholeAhead_27 : decode cX0_wholeAhead 27 = .ok (.iinc 2 1, 3) := by decide +kernel
theorem dX0_wholeAhead_30 : decode cX0_wholeAhead 30 = .ok (.goto (-23), 3) := by decide +kernel
theorem dX0_wholeAhead_33 : decode cX0_wholeAhead 33 = .ok (.iload_n 1, 1) := by decide +kernel
theorem dX0_wholeAhead_34 : decode cX0_wholeAhead 34 = .ok (.ireturn, 1) := by decide +kernel
set_option maxRecDepth 20000 in
theorem ggX0_countShowable_X2_holdsFrame : GoodIn wsX0_countShowable wsX2_holdsFrame := goodIn_r _ [7, 8, 33, 34, 35, 36, 37] (by decide +kernel) (by decide +kernel)
set_option maxRecDepth 20000 in
theorem gX0_countShowable_X2_holdsFrame : GoodIn wsX0_countShowable (wsV RX0 44 RX2 yX2_holdsFrame wsX2_holdsFrame) := goodIn_app (goodIn_of _ (by decide +kernel)) ggX0_countShowable_X2_holdsFrame
set_option maxRecDepth 20000 in
theorem ggX0_countShowable_X0_needBefore : GoodIn wsX0_countShowable wsX0_needBefore := goodIn_r _ [12, 13, 14, 11, 15] (by decide +kernel) (by decide +kernel)
set_option maxRecDepth 20000 in
theorem gX0_countShowable_X0_needBefore : GoodIn wsX0_countShowable (va_wsS RX0 60 yX0_needBefore wsX0_needBefore) := goodIn_app (goodIn_of _ (by decide +kernel)) ggX0_countShowable_X0_needBefore
set_option maxRecDepth 20000 in
theorem ggX0_countShowable_X0_isAnchorShowable : GoodIn wsX0_countShowable wsX0_isAnchorShowable := goodIn_r _ [19, 2, 3, 4, 5, 6, 7, 8, 9, 10, 11, 12, 13, 14, 15, 20, 21, 22, 23, 27, 28, 29, 30, 31, 32, 33, 34, 35, 36, 37] (by decide +kernel) (by decide +kernel)
set_option maxRecDepth 20000 in
theorem gX0_countShowable_X0_isAnchorShowable : GoodIn wsX0_countShowable (wsV RX0 75 RX0 yX0_isAnchorShowable wsX0_isAnchorShowable) := goodIn_app (goodIn_of _ (by decide +kernel)) ggX0_countShowable_X0_isAnchorShowable
set_option maxRecDepth 20000 in
theorem ggX0_countShowable_X0_needBehind : GoodIn wsX0_countShowable wsX0_needBehind := goodIn_r _ [26, 13, 14, 11, 15] (by decide +kernel) (by decide +kernel)
set_option maxRecDepth 20000 in
theorem gX0_countShowable_X0_needBehind : GoodIn wsX0_countShowable (va_wsS RX0 63 yX0_needBehind wsX0_needBehind) := goodIn_app (goodIn_of _ (by decide +kernel)) ggX0_countShowable_X0_needBehind
theorem dX0_countShowable_0 : decode cX0_countShowable 0 = .ok (.iconst 0, 1) := by decide +kernel
theorem dX0_countShowable_1 : decode cX0_countShowable 1 = .ok (.istore_n 1, 1) := by decide +kernel
theorem dX0_countShowable_2 : decode cX0_countShowable 2 = .ok (.iconst 0, 1) := by decide +kernel
theorem dX0_countShowable_3 : decode cX0_countShowable 3 = .ok (.istore_n 2, 1) := by decide +kernel
theorem dX0_countShowable_4 : decode cX0_countShowable 4 = .ok (.iload_n 2, 1) := by decide +kernel
theorem dX0_countShowable_5 : decode cX0_countShowable 5 = .ok (.aload_n 0, 1) := by decide +kernel
theorem dX0_countShowable_6 : decode cX0_countShowable 6 = .ok (.getfield 15, 3) := by decide +kernel
theorem dX0_countShowable_9 : decode cX0_countShowable 9 = .ok (.if_icmp .ge 45, 3) := by decide +kernel
theorem dX0_countShowable_12 : decode cX0_countShowable 12 = .ok (.aload_n 0, 1) := by decide +kernel
theorem dX0_countShowable_13 : decode cX0_countShowable 13 = .ok (.getfield 28, 3) := by decide +kernel
theorem dX0_countShowable_16 : decode cX0_countShowable 16 = .ok (.iload_n 2, 1) := by decide +kernel
theorem dX0_countShowable_17 : decode cX0_countShowable 17 = .ok (.invokevirtual 44, 3) := by decide +kernel
theorem dX0_countShowable_20 : decode cX0_countShowable 20 = .ok (.ifCond .eq 28, 3) := by decide +kernel
theorem dX0_countShowable_23 : decode cX0_countShowable 23 = .ok (.aload_n 0, 1) := by decide +kernel
theorem dX0_countShowable_24 : decode cX0_countShowable 24 = .ok (.iload_n 2, 1) := by decide +kernel
theorem dX0_countShowable_25 : decode cX0_countShowable 25 = .ok (.invokestatic 60, 3) := by decide +kernel
theorem dX0_countShowable_28 : decode cX0_countShowable 28 = .ok (.invokevirtual 75, 3) := by decide +kernel
theorem dX0_countShowable_31 : decode cX0_countShowable 31 = .ok (.ifCond .eq 17, 3) := by decide +kernel
theorem dX0_countShowable_34 : decode cX0_countShowable 34 = .ok (.aload_n 0, 1) := by decide +kernel
theorem dX0_countShowable_35 : decode cX0_countShowable 35 = .ok (.iload_n 2, 1) := by decide +kernel
theorem dX0_countShowable_36 : decode cX0_countShowable 36 = .ok (.invokestatic 63, 3) := by decide +kernel
theorem dX0_countShowable_39 : decode cX0_countShowable 39 = .ok (.invokevirtual 75, 3) := by decide +kernel
theorem dX0_countShowable_42 : decode cX0_countShowable 42 = .ok (.ifCond .eq 6, 3) := by decide +kernel
theorem dX0_countShowable_45 : decode cX0_countShowable 45 = .ok (.iinc 1 1, 3) := by decide +kernel
theorem dX0_countShowable_48 : decode cX0_countShowable 48 = .ok (.iinc 2 1, 3) := by decide +kernel
theorem dX0_countShowable_51 : decode cX0_countShowable 51 = .ok (.goto (-47), 3) := by decide +kernel
theorem dX0_countShowable_54 : decode cX0_countShowable 54 = .ok (.iload_n 1, 1) := by decide +kernel
theorem dX0_countShowable_55 : decode cX0_countShowable 55 = .ok (.ireturn, 1) := by decide +kernel
set_option maxRecDepth 20000 in
theorem ggX0_isAnchorShowable_X2_holdsFrame : GoodIn wsX0_isAnchorShowable wsX2_holdsFrame := goodIn_r _ [6, 7, 25, 26, 27, 28, 29] (by decide +kernel) (by decide +kernel)
set_option maxRecDepth 20000 in
theorem gX0_isAnchorShowable_X2_holdsFrame : GoodIn wsX0_isAnchorShowable (wsV RX0 44 RX2 yX2_holdsFrame wsX2_holdsFrame) := goodIn_app (goodIn_of _ (by decide +kernel)) ggX0_isAnchorShowable_X2_holdsFrame
set_option maxRecDepth 20000 in
theorem ggX0_isAnchorShowable_X0_needBefore : GoodIn wsX0_isAnchorShowable wsX0_needBefore := goodIn_r _ [11, 12, 13, 10, 14] (by decide +kernel) (by decide +kernel)
set_option maxRecDepth 20000 in
theorem gX0_isAnchorShowable_X0_needBefore : GoodIn wsX0_isAnchorShowable (va_wsS RX0 60 yX0_needBefore wsX0_needBefore) := goodIn_app (goodIn_of _ (by decide +kernel)) ggX0_isAnchorShowable_X0_needBefore
set_option maxRecDepth 20000 in
theorem ggX0_isAnchorShowable_X0_isWholeIfAny : GoodIn wsX0_isAnchorShowable wsX0_isWholeIfAny := goodIn_r _ [18, 1, 2, 3, 4, 5, 6, 7, 19, 20, 21, 22, 23, 24, 25, 26, 27, 28, 29] (by decide +kernel) (by decide +kernel)
set_option maxRecDepth 20000 in
theorem gX0_isAnchorShowable_X0_isWholeIfAny : GoodIn wsX0_isAnchorShowable (wsV RX0 69 RX0 yX0_isWholeIfAny wsX0_isWholeIfAny) := goodIn_app (goodIn_of _ (by decide +kernel)) ggX0_isAnchorShowable_X0_isWholeIfAny
theorem dX0_isAnchorShowable_0 : decode cX0_isAnchorShowable 0 = .ok (.iload_n 1, 1) := by decide +kernel
theorem dX0_isAnchorShowable_1 : decode cX0_isAnchorShowable 1 = .ok (.iconst (-1), 1) := by decide +kernel
theorem dX0_isAnchorShowable_2 : decode cX0_isAnchorShowable 2 = .ok (.if_icmp .eq 25, 3) := by decide +kernel
theorem dX0_isAnchorShowable_5 : decode cX0_isAnchorShowable 5 = .ok (.aload_n 0, 1) := by decide +kernel
theorem dX0_isAnchorShowable_6 : decode cX0_isAnchorShowable 6 = .ok (.getfield 28, 3) := by decide +kernel
theorem dX0_isAnchorShowable_9 : decode cX0_isAnchorShowable 9 = .ok (.iload_n 1, 1) := by decide +kernel
theorem dX0_isAnchorShowable_10 : decode cX0_isAnchorShowable 10 = .ok (.invokevirtual 44, 3) := by decide +kernel
theorem dX0_isAnchorShowable_13 : decode cX0_isAnchorShowable 13 = .ok (.ifCond .eq 18, 3) := by decide +kernel
theorem dX0_isAnchorShowable_16 : decode cX0_isAnchorShowable 16 = .ok (.aload_n 0, 1) := by decide +kernel
theorem dX0_isAnchorShowable_17 : decode cX0_isAnchorShowable 17 = .ok (.iload_n 1, 1) := by decide +kernel
theorem dX0_isAnchorShowable_18 : decode cX0_isAnchorShowable 18 = .ok (.invokestatic 60, 3) := by decide +kernel
theorem dX0_isAnchorShowable_21 : decode cX0_isAnchorShowable 21 = .ok (.invokevirtual 69, 3) := by decide +kernel
theorem dX0_isAnchorShowable_24 : decode cX0_isAnchorShowable 24 = .ok (.ifCond .eq 7, 3) := by decide +kernel
theorem dX0_isAnchorShowable_27 : decode cX0_isAnchorShowable 27 = .ok (.iconst 1, 1) := by decide +kernel
theorem dX0_isAnchorShowable_28 : decode cX0_isAnchorShowable 28 = .ok (.goto 4, 3) := by decide +kernel
theorem dX0_isAnchorShowable_31 : decode cX0_isAnchorShowable 31 = .ok (.iconst 0, 1) := by decide +kernel
theorem dX0_isAnchorShowable_32 : decode cX0_isAnchorShowable 32 = .ok (.ireturn, 1) := by decide +kernel
theorem dX0_delay_0 : decode cX0_delay 0 = .ok (.aload_n 0, 1) := by decide +kernel
theorem dX0_delay_1 : decode cX0_delay 1 = .ok (.getfield 22, 3) := by decide +kernel
theorem dX0_delay_4 : decode cX0_delay 4 = .ok (.iconst (-1), 1) := by decide +kernel
theorem dX0_delay_5 : decode cX0_delay 5 = .ok (.if_icmp .ne 7, 3) := by decide +kernel
theorem dX0_delay_8 : decode cX0_delay 8 = .ok (.iconst 0, 1) := by decide +kernel
theorem dX0_delay_9 : decode cX0_delay 9 = .ok (.goto 20, 3) := by decide +kernel
theorem dX0_delay_12 : decode cX0_delay 12 = .ok (.aload_n 0, 1) := by decide +kernel
theorem dX0_delay_13 : decode cX0_delay 13 = .ok (.getfield 22, 3) := by decide +kernel
theorem dX0_delay_16 : decode cX0_delay 16 = .ok (.aload_n 0, 1) := by decide +kernel
theorem dX0_delay_17 : decode cX0_delay 17 = .ok (.getfield 19, 3) := by decide +kernel
theorem dX0_delay_20 : decode cX0_delay 20 = .ok (.isub, 1) := by decide +kernel
theorem dX0_delay_21 : decode cX0_delay 21 = .ok (.bipush 10, 2) := by decide +kernel
theorem dX0_delay_23 : decode cX0_delay 23 = .ok (.aload_n 0, 1) := by decide +kernel
theorem dX0_delay_24 : decode cX0_delay 24 = .ok (.getfield 15, 3) := by decide +kernel
theorem dX0_delay_27 : decode cX0_delay 27 = .ok (.imul, 1) := by decide +kernel
theorem dX0_delay_28 : decode cX0_delay 28 = .ok (.isub, 1) := by decide +kernel
theorem dX0_delay_29 : decode cX0_delay 29 = .ok (.ireturn, 1) := by decide +kernel
theorem dX1_init_0 : decode cX1_init 0 = .ok (.aload_n 0, 1) := by decide +kernel
theorem dX1_init_1 : decode cX1_init 1 = .ok (.invokespecial 3, 3) := by decide +kernel
theorem dX1_init_4 : decode cX1_init 4 = .ok (.aload_n 0, 1) := by decide +kernel
theorem dX1_init_5 : decode cX1_init 5 = .ok (.bipush 32, 2) := by decide +kernel
theorem dX1_init_7 : decode cX1_init 7 = .ok (.newarray .int, 2) := by decide +kernel
theorem dX1_init_9 : decode cX1_init 9 = .ok (.putfield 9, 3) := by decide +kernel
theorem dX1_init_12 : decode cX1_init 12 = .ok (.aload_n 0, 1) := by decide +kernel
theorem dX1_init_13 : decode cX1_init 13 = .ok (.bipush 32, 2) := by decide +kernel
theorem dX1_init_15 : decode cX1_init 15 = .ok (.newarray .int, 2) := by decide +kernel
theorem dX1_init_17 : decode cX1_init 17 = .ok (.putfield 15, 3) := by decide +kernel
theorem dX1_init_20 : decode cX1_init 20 = .ok (.aload_n 0, 1) := by decide +kernel
theorem dX1_init_21 : decode cX1_init 21 = .ok (.iconst 0, 1) := by decide +kernel
theorem dX1_init_22 : decode cX1_init 22 = .ok (.putfield 18, 3) := by decide +kernel
theorem dX1_init_25 : decode cX1_init 25 = .ok (.aload_n 0, 1) := by decide +kernel
theorem dX1_init_26 : decode cX1_init 26 = .ok (.bipush 16, 2) := by decide +kernel
theorem dX1_init_28 : decode cX1_init 28 = .ok (.putfield 22, 3) := by decide +kernel
theorem dX1_init_31 : decode cX1_init 31 = .ok (.aload_n 0, 1) := by decide +kernel
theorem dX1_init_32 : decode cX1_init 32 = .ok (.iconst 4, 1) := by decide +kernel
theorem dX1_init_33 : decode cX1_init 33 = .ok (.putfield 25, 3) := by decide +kernel
theorem dX1_init_36 : decode cX1_init 36 = .ok (.aload_n 0, 1) := by decide +kernel
theorem dX1_init_37 : decode cX1_init 37 = .ok (.iconst 3, 1) := by decide +kernel
theorem dX1_init_38 : decode cX1_init 38 = .ok (.putfield 28, 3) := by decide +kernel
theorem dX1_init_41 : decode cX1_init 41 = .ok (.aload_n 0, 1) := by decide +kernel
theorem dX1_init_42 : decode cX1_init 42 = .ok (.bipush 8, 2) := by decide +kernel
theorem dX1_init_44 : decode cX1_init 44 = .ok (.putfield 31, 3) := by decide +kernel
theorem dX1_init_47 : decode cX1_init 47 = .ok (.aload_n 0, 1) := by decide +kernel
theorem dX1_init_48 : decode cX1_init 48 = .ok (.iconst 0, 1) := by decide +kernel
theorem dX1_init_49 : decode cX1_init 49 = .ok (.putfield 34, 3) := by decide +kernel
theorem dX1_init_52 : decode cX1_init 52 = .ok (.aload_n 0, 1) := by decide +kernel
theorem dX1_init_53 : decode cX1_init 53 = .ok (.iconst 0, 1) := by decide +kernel
theorem dX1_init_54 : decode cX1_init 54 = .ok (.putfield 38, 3) := by decide +kernel
theorem dX1_init_57 : decode cX1_init 57 = .ok (.return_, 1) := by decide +kernel
theorem dX1_put_0 : decode cX1_put 0 = .ok (.aload_n 0, 1) := by decide +kernel
theorem dX1_put_1 : decode cX1_put 1 = .ok (.getfield 18, 3) := by decide +kernel
theorem dX1_put_4 : decode cX1_put 4 = .ok (.aload_n 0, 1) := by decide +kernel
theorem dX1_put_5 : decode cX1_put 5 = .ok (.getfield 22, 3) := by decide +kernel
theorem dX1_put_8 : decode cX1_put 8 = .ok (.if_icmp .ge 12, 3) := by decide +kernel
theorem dX1_put_11 : decode cX1_put 11 = .ok (.aload_n 0, 1) := by decide +kernel
theorem dX1_put_12 : decode cX1_put 12 = .ok (.getfield 18, 3) := by decide +kernel
theorem dX1_put_15 : decode cX1_put 15 = .ok (.bipush 32, 2) := by decide +kernel
theorem dX1_put_17 : decode cX1_put 17 = .ok (.if_icmp .lt 15, 3) := by decide +kernel
theorem dX1_put_20 : decode cX1_put 20 = .ok (.aload_n 0, 1) := by decide +kernel
theorem dX1_put_21 : decode cX1_put 21 = .ok (.dup, 1) := by decide +kernel
theorem dX1_put_22 : decode cX1_put 22 = .ok (.getfield 38, 3) := by decide +kernel
theorem dX1_put_25 : decode cX1_put 25 = .ok (.iconst 1, 1) := by decide +kernel
theorem dX1_put_26 : decode cX1_put 26 = .ok (.iadd, 1) := by decide +kernel
theorem dX1_put_27 : decode cX1_put 27 = .ok (.putfield 38, 3) := by decide +kernel
theorem dX1_put_30 : decode cX1_put 30 = .ok (.iconst 0, 1) := by decide +kernel
theorem dX1_put_31 : decode cX1_put 31 = .ok (.ireturn, 1) := by decide +kernel
theorem dX1_put_32 : decode cX1_put 32 = .ok (.aload_n 0, 1) := by decide +kernel
theorem dX1_put_33 : decode cX1_put 33 = .ok (.getfield 9, 3) := by decide +kernel
theorem dX1_put_36 : decode cX1_put 36 = .ok (.aload_n 0, 1) := by decide +kernel
theorem dX1_put_37 : decode cX1_put 37 = .ok (.getfield 18, 3) := by decide +kernel
theorem dX1_put_40 : decode cX1_put 40 = .ok (.iload_n 1, 1) := by decide +kernel
theorem dX1_put_41 : decode cX1_put 41 = .ok (.iastore, 1) := by decide +kernel
theorem dX1_put_42 : decode cX1_put 42 = .ok (.aload_n 0, 1) := by decide +kernel
theorem dX1_put_43 : decode cX1_put 43 = .ok (.getfield 15, 3) := by decide +kernel
theorem dX1_put_46 : decode cX1_put 46 = .ok (.aload_n 0, 1) := by decide +kernel
theorem dX1_put_47 : decode cX1_put 47 = .ok (.getfield 18, 3) := by decide +kernel
theorem dX1_put_50 : decode cX1_put 50 = .ok (.iload_n 2, 1) := by decide +kernel
theorem dX1_put_51 : decode cX1_put 51 = .ok (.iastore, 1) := by decide +kernel
theorem dX1_put_52 : decode cX1_put 52 = .ok (.aload_n 0, 1) := by decide +kernel
theorem dX1_put_53 : decode cX1_put 53 = .ok (.dup, 1) := by decide +kernel
theorem dX1_put_54 : decode cX1_put 54 = .ok (.getfield 18, 3) := by decide +kernel
theorem dX1_put_57 : decode cX1_put 57 = .ok (.iconst 1, 1) := by decide +kernel
theorem dX1_put_58 : decode cX1_put 58 = .ok (.iadd, 1) := by decide +kernel
theorem dX1_put_59 : decode cX1_put 59 = .ok (.putfield 18, 3) := by decide +kernel
theorem dX1_put_62 : decode cX1_put 62 = .ok (.iconst 1, 1) := by decide +kernel
theorem dX1_put_63 : decode cX1_put 63 = .ok (.ireturn, 1) := by decide +kernel
theorem dX1_loseAll_0 : decode cX1_loseAll 0 = .ok (.aload_n 0, 1) := by decide +kernel
theorem dX1_loseAll_1 : decode cX1_loseAll 1 = .ok (.getfield 18, 3) := by decide +kernel
theorem dX1_loseAll_4 : decode cX1_loseAll 4 = .ok (.istore_n 1, 1) := by decide +kernel
theorem dX1_loseAll_5 : decode cX1_loseAll 5 = .ok (.aload_n 0, 1) := by decide +kernel
theorem dX1_loseAll_6 : decode cX1_loseAll 6 = .ok (.dup, 1) := by decide +kernel
theorem dX1_loseAll_7 : decode cX1_loseAll 7 = .ok (.getfield 38, 3) := by decide +kernel
theorem dX1_loseAll_10 : decode cX1_loseAll 10 = .ok (.iload_n 1, 1) := by decide +kernel
theorem dX1_loseAll_11 : decode cX1_loseAll 11 = .ok (.iadd, 1) := by decide +kernel
theorem dX1_loseAll_12 : decode cX1_loseAll 12 = .ok (.putfield 38, 3) := by decide +kernel
theorem dX1_loseAll_15 : decode cX1_loseAll 15 = .ok (.aload_n 0, 1) := by decide +kernel
theorem dX1_loseAll_16 : decode cX1_loseAll 16 = .ok (.iconst 0, 1) := by decide +kernel
theorem dX1_loseAll_17 : decode cX1_loseAll 17 = .ok (.putfield 18, 3) := by decide +kernel
theorem dX1_loseAll_20 : decode cX1_loseAll 20 = .ok (.aload_n 0, 1) := by decide +kernel
theorem dX1_loseAll_21 : decode cX1_loseAll 21 = .ok (.iconst 0, 1) := by decide +kernel
theorem dX1_loseAll_22 : decode cX1_loseAll 22 = .ok (.putfield 34, 3) := by decide +kernel
theorem dX1_loseAll_25 : decode cX1_loseAll 25 = .ok (.iload_n 1, 1) := by decide +kernel
theorem dX1_loseAll_26 : decode cX1_loseAll 26 = .ok (.ireturn, 1) := by decide +kernel
set_option maxRecDepth 20000 in
theorem ggX1_chooseMany_X1_isInterruptDue : GoodIn wsX1_chooseMany wsX1_isInterruptDue := goodIn_r _ [12, 2, 13, 14, 15, 16, 17, 18, 19, 20, 21, 22, 23, 24] (by decide +kernel) (by decide +kernel)
set_option maxRecDepth 20000 in
theorem gX1_chooseMany_X1_isInterruptDue : GoodIn wsX1_chooseMany (wsV RX1 47 RX1 yX1_isInterruptDue wsX1_isInterruptDue) := goodIn_app (goodIn_of _ (by decide +kernel)) ggX1_chooseMany_X1_isInterruptDue
theorem dX1_chooseMany_0 : decode cX1_chooseMany 0 = .ok (.aload_n 0, 1) := by decide +kernel
theorem dX1_chooseMany_1 : decode cX1_chooseMany 1 = .ok (.getfield 34, 3) := by decide +kernel
theorem dX1_chooseMany_4 : decode cX1_chooseMany 4 = .ok (.ifCond .eq 28, 3) := by decide +kernel
theorem dX1_chooseMany_7 : decode cX1_chooseMany 7 = .ok (.aload_n 0, 1) := by decide +kernel
theorem dX1_chooseMany_8 : decode cX1_chooseMany 8 = .ok (.getfield 18, 3) := by decide +kernel
theorem dX1_chooseMany_11 : decode cX1_chooseMany 11 = .ok (.bipush 6, 2) := by decide +kernel
theorem dX1_chooseMany_13 : decode cX1_chooseMany 13 = .ok (.invokestatic 41, 3) := by decide +kernel
theorem dX1_chooseMany_16 : decode cX1_chooseMany 16 = .ok (.istore_n 2, 1) := by decide +kernel
theorem dX1_chooseMany_17 : decode cX1_chooseMany 17 = .ok (.aload_n 0, 1) := by decide +kernel
theorem dX1_chooseMany_18 : decode cX1_chooseMany 18 = .ok (.iload_n 2, 1) := by decide +kernel
theorem dX1_chooseMany_19 : decode cX1_chooseMany 19 = .ok (.ifCond .le 7, 3) := by decide +kernel
theorem dX1_chooseMany_22 : decode cX1_chooseMany 22 = .ok (.iconst 1, 1) := by decide +kernel
theorem dX1_chooseMany_23 : decode cX1_chooseMany 23 = .ok (.goto 4, 3) := by decide +kernel
theorem dX1_chooseMany_26 : decode cX1_chooseMany 26 = .ok (.iconst 0, 1) := by decide +kernel
theorem dX1_chooseMany_27 : decode cX1_chooseMany 27 = .ok (.putfield 34, 3) := by decide +kernel
theorem dX1_chooseMany_30 : decode cX1_chooseMany 30 = .ok (.iload_n 2, 1) := by decide +kernel
theorem dX1_chooseMany_31 : decode cX1_chooseMany 31 = .ok (.ireturn, 1) := by decide +kernel
theorem dX1_chooseMany_32 : decode cX1_chooseMany 32 = .ok (.aload_n 0, 1) := by decide +kernel
theorem dX1_chooseMany_33 : decode cX1_chooseMany 33 = .ok (.iload_n 1, 1) := by decide +kernel
theorem dX1_chooseMany_34 : decode cX1_chooseMany 34 = .ok (.invokevirtual 47, 3) := by decide +kernel
theorem dX1_chooseMany_37 : decode cX1_chooseMany 37 = .ok (.ifCond .ne 5, 3) := by decide +kernel
theorem dX1_chooseMany_40 : decode cX1_chooseMany 40 = .ok (.iconst 0, 1) := by decide +kernel
theorem dX1_chooseMany_41 : decode cX1_chooseMany 41 = .ok (.ireturn, 1) := by decide +kernel
theorem dX1_chooseMany_42 : decode cX1_chooseMany 42 = .ok (.aload_n 0, 1) := by decide +kernel
theorem dX1_chooseMany_43 : decode cX1_chooseMany 43 = .ok (.aload_n 0, 1) := by decide +kernel
theorem dX1_chooseMany_44 : decode cX1_chooseMany 44 = .ok (.getfield 18, 3) := by decide +kernel
theorem dX1_chooseMany_47 : decode cX1_chooseMany 47 = .ok (.aload_n 0, 1) := by decide +kernel
theorem dX1_chooseMany_48 : decode cX1_chooseMany 48 = .ok (.getfield 31, 3) := by decide +kernel
theorem dX1_chooseMany_51 : decode cX1_chooseMany 51 = .ok (.if_icmp .lt 7, 3) := by decide +kernel
theorem dX1_chooseMany_54 : decode cX1_chooseMany 54 = .ok (.iconst 1, 1) := by decide +kernel
theorem dX1_chooseMany_55 : decode cX1_chooseMany 55 = .ok (.goto 4, 3) := by decide +kernel
theorem dX1_chooseMany_58 : decode cX1_chooseMany 58 = .ok (.iconst 0, 1) := by decide +kernel
theorem dX1_chooseMany_59 : decode cX1_chooseMany 59 = .ok (.putfield 34, 3) := by decide +kernel
theorem dX1_chooseMany_62 : decode cX1_chooseMany 62 = .ok (.aload_n 0, 1) := by decide +kernel
theorem dX1_chooseMany_63 : decode cX1_chooseMany 63 = .ok (.getfield 18, 3) := by decide +kernel
theorem dX1_chooseMany_66 : decode cX1_chooseMany 66 = .ok (.ireturn, 1) := by decide +kernel
theorem dX1_isInterruptDue_0 : decode cX1_isInterruptDue 0 = .ok (.aload_n 0, 1) := by decide +kernel
theorem dX1_isInterruptDue_1 : decode cX1_isInterruptDue 1 = .ok (.getfield 18, 3) := by decide +kernel
theorem dX1_isInterruptDue_4 : decode cX1_isInterruptDue 4 = .ok (.aload_n 0, 1) := by decide +kernel
theorem dX1_isInterruptDue_5 : decode cX1_isInterruptDue 5 = .ok (.getfield 25, 3) := by decide +kernel
theorem dX1_isInterruptDue_8 : decode cX1_isInterruptDue 8 = .ok (.if_icmp .ge 25, 3) := by decide +kernel
theorem dX1_isInterruptDue_11 : decode cX1_isInterruptDue 11 = .ok (.aload_n 0, 1) := by decide +kernel
theorem dX1_isInterruptDue_12 : decode cX1_isInterruptDue 12 = .ok (.getfield 18, 3) := by decide +kernel
theorem dX1_isInterruptDue_15 : decode cX1_isInterruptDue 15 = .ok (.ifCond .le 22, 3) := by decide +kernel
theorem dX1_isInterruptDue_18 : decode cX1_isInterruptDue 18 = .ok (.iload_n 1, 1) := by decide +kernel
theorem dX1_isInterruptDue_19 : decode cX1_isInterruptDue 19 = .ok (.aload_n 0, 1) := by decide +kernel
theorem dX1_isInterruptDue_20 : decode cX1_isInterruptDue 20 = .ok (.getfield 15, 3) := by decide +kernel
theorem dX1_isInterruptDue_23 : decode cX1_isInterruptDue 23 = .ok (.iconst 0, 1) := by decide +kernel
theorem dX1_isInterruptDue_24 : decode cX1_isInterruptDue 24 = .ok (.iaload, 1) := by decide +kernel
theorem dX1_isInterruptDue_25 : decode cX1_isInterruptDue 25 = .ok (.isub, 1) := by decide +kernel
theorem dX1_isInterruptDue_26 : decode cX1_isInterruptDue 26 = .ok (.aload_n 0, 1) := by decide +kernel
theorem dX1_isInterruptDue_27 : decode cX1_isInterruptDue 27 = .ok (.getfield 28, 3) := by decide +kernel
theorem dX1_isInterruptDue_30 : decode cX1_isInterruptDue 30 = .ok (.if_icmp .lt 7, 3) := by decide +kernel
theorem dX1_isInterruptDue_33 : decode cX1_isInterruptDue 33 = .ok (.iconst 1, 1) := by decide +kernel
theorem dX1_isInterruptDue_34 : decode cX1_isInterruptDue 34 = .ok (.goto 4, 3) := by decide +kernel
theorem dX1_isInterruptDue_37 : decode cX1_isInterruptDue 37 = .ok (.iconst 0, 1) := by decide +kernel
theorem dX1_isInterruptDue_38 : decode cX1_isInterruptDue 38 = .ok (.ireturn, 1) := by decide +kernel
theorem dX1_packetAt_0 : decode cX1_packetAt 0 = .ok (.iload_n 1, 1) := by decide +kernel
theorem dX1_packetAt_1 : decode cX1_packetAt 1 = .ok (.ifCond .lt 26, 3) := by decide +kernel
theorem dX1_packetAt_4 : decode cX1_packetAt 4 = .ok (.iload_n 1, 1) := by decide +kernel
theorem dX1_packetAt_5 : decode cX1_packetAt 5 = .ok (.aload_n 0, 1) := by decide +kernel
theorem dX1_packetAt_6 : decode cX1_packetAt 6 = .ok (.getfield 18, 3) := by decide +kernel
theorem dX1_packetAt_9 : decode cX1_packetAt 9 = .ok (.if_icmp .ge 18, 3) := by decide +kernel
theorem dX1_packetAt_12 : decode cX1_packetAt 12 = .ok (.iload_n 1, 1) := by decide +kernel
theorem dX1_packetAt_13 : decode cX1_packetAt 13 = .ok (.bipush 32, 2) := by decide +kernel
theorem dX1_packetAt_15 : decode cX1_packetAt 15 = .ok (.if_icmp .ge 12, 3) := by decide +kernel
theorem dX1_packetAt_18 : decode cX1_packetAt 18 = .ok (.aload_n 0, 1) := by decide +kernel
theorem dX1_packetAt_19 : decode cX1_packetAt 19 = .ok (.getfield 9, 3) := by decide +kernel
theorem dX1_packetAt_22 : decode cX1_packetAt 22 = .ok (.iload_n 1, 1) := by decide +kernel
theorem dX1_packetAt_23 : decode cX1_packetAt 23 = .ok (.iaload, 1) := by decide +kernel
theorem dX1_packetAt_24 : decode cX1_packetAt 24 = .ok (.goto 4, 3) := by decide +kernel
theorem dX1_packetAt_27 : decode cX1_packetAt 27 = .ok (.iconst (-1), 1) := by decide +kernel
theorem dX1_packetAt_28 : decode cX1_packetAt 28 = .ok (.ireturn, 1) := by decide +kernel
theorem dX1_removeFirst_0 : decode cX1_removeFirst 0 = .ok (.iconst 0, 1) := by decide +kernel
theorem dX1_removeFirst_1 : decode cX1_removeFirst 1 = .ok (.iload_n 1, 1) := by decide +kernel
theorem dX1_removeFirst_2 : decode cX1_removeFirst 2 = .ok (.invokestatic 51, 3) := by decide +kernel
theorem dX1_removeFirst_5 : decode cX1_removeFirst 5 = .ok (.istore_n 2, 1) := by decide +kernel
theorem dX1_removeFirst_6 : decode cX1_removeFirst 6 = .ok (.iconst 0, 1) := by decide +kernel
theorem dX1_removeFirst_7 : decode cX1_removeFirst 7 = .ok (.istore_n 3, 1) := by decide +kernel
theorem dX1_removeFirst_8 : decode cX1_removeFirst 8 = .ok (.iload_n 2, 1) := by decide +kernel
theorem dX1_removeFirst_9 : decode cX1_removeFirst 9 = .ok (.istore 4, 2) := by decide +kernel
theorem dX1_removeFirst_11 : decode cX1_removeFirst 11 = .ok (.iload 4, 2) := by decide +kernel
theorem dX1_removeFirst_13 : decode cX1_removeFirst 13 = .ok (.aload_n 0, 1) := by decide +kernel
theorem dX1_removeFirst_14 : decode cX1_removeFirst 14 = .ok (.getfield 18, 3) := by decide +kernel
theorem dX1_removeFirst_17 : decode cX1_removeFirst 17 = .ok (.if_icmp .ge 45, 3) := by decide +kernel
theorem dX1_removeFirst_20 : decode cX1_removeFirst 20 = .ok (.iload 4, 2) := by decide +kernel
theorem dX1_removeFirst_22 : decode cX1_removeFirst 22 = .ok (.bipush 32, 2) := by decide +kernel
theorem dX1_removeFirst_24 : decode cX1_removeFirst 24 = .ok (.if_icmp .ge 38, 3) := by decide +kernel
theorem dX1_removeFirst_27 : decode cX1_removeFirst 27 = .ok (.aload_n 0, 1) := by decide +kernel
theorem dX1_removeFirst_28 : decode cX1_removeFirst 28 = .ok (.getfield 9, 3) := by decide +kernel
theorem dX1_removeFirst_31 : decode cX1_removeFirst 31 = .ok (.iload_n 3, 1) := by decide +kernel
theorem dX1_removeFirst_32 : decode cX1_removeFirst 32 = .ok (.aload_n 0, 1) := by decide +kernel
theorem dX1_removeFirst_33 : decode cX1_removeFirst 33 = .ok (.getfield 9, 3) := by decide +kernel
theorem dX1_removeFirst_36 : decode cX1_removeFirst 36 = .ok (.iload 4, 2) := by decide +kernel
theorem dX1_removeFirst_38 : decode cX1_removeFirst 38 = .ok (.iaload, 1) := by decide +kernel
theorem dX1_removeFirst_39 : decode cX1_removeFirst 39 = .ok (.iastore, 1) := by decide +kernel
theorem dX1_removeFirst_40 : decode cX1_removeFirst 40 = .ok (.aload_n 0, 1) := by decide +kernel
theorem dX1_removeFirst_41 : decode cX1_removeFirst 41 = .ok (.getfield 15, 3) := by decide +kernel
theorem dX1_removeFirst_44 : decode cX1_removeFirst 44 = .ok (.iload_n 3, 1) := by decide +kernel
theorem dX1_removeFirst_45 : decode cX1_removeFirst 45 = .ok (.aload_n 0, 1) := by decide +kernel
theorem dX1_removeFirst_46 : decode cX1_removeFirst 46 = .ok (.getfield 15, 3) := by decide +kernel
theorem dX1_removeFirst_49 : decode cX1_removeFirst 49 = .ok (.iload 4, 2) := by decide +kernel
theorem dX1_removeFirst_51 : decode cX1_removeFirst 51 = .ok (.iaload, 1) := by decide +kernel
theorem dX1_removeFirst_52 : decode cX1_removeFirst 52 = .ok (.iastore, 1) := by decide +kernel
theorem dX1_removeFirst_53 : decode cX1_removeFirst 53 = .ok (.iinc 3 1, 3) := by decide +kernel
theorem dX1_removeFirst_56 : decode cX1_removeFirst 56 = .ok (.iinc 4 1, 3) := by decide +kernel
theorem dX1_removeFirst_59 : decode cX1_removeFirst 59 = .ok (.goto (-48), 3) := by decide +kernel
theorem dX1_removeFirst_62 : decode cX1_removeFirst 62 = .ok (.aload_n 0, 1) := by decide +kernel
theorem dX1_removeFirst_63 : decode cX1_removeFirst 63 = .ok (.iload_n 3, 1) := by decide +kernel
theorem dX1_removeFirst_64 : decode cX1_removeFirst 64 = .ok (.putfield 18, 3) := by decide +kernel
theorem dX1_removeFirst_67 : decode cX1_removeFirst 67 = .ok (.return_, 1) := by decide +kernel
theorem dX2_init_0 : decode cX2_init 0 = .ok (.aload_n 0, 1) := by decide +kernel
theorem dX2_init_1 : decode cX2_init 1 = .ok (.invokespecial 3, 3) := by decide +kernel
theorem dX2_init_4 : decode cX2_init 4 = .ok (.aload_n 0, 1) := by decide +kernel
theorem dX2_init_5 : decode cX2_init 5 = .ok (.sipush 300, 3) := by decide +kernel
theorem dX2_init_8 : decode cX2_init 8 = .ok (.newarray .boolean, 2) := by decide +kernel
theorem dX2_init_10 : decode cX2_init 10 = .ok (.putfield 9, 3) := by decide +kernel
theorem dX2_init_13 : decode cX2_init 13 = .ok (.aload_n 0, 1) := by decide +kernel
theorem dX2_init_14 : decode cX2_init 14 = .ok (.sipush 300, 3) := by decide +kernel
theorem dX2_init_17 : decode cX2_init 17 = .ok (.newarray .int, 2) := by decide +kernel
theorem dX2_init_19 : decode cX2_init 19 = .ok (.putfield 15, 3) := by decide +kernel
theorem dX2_init_22 : decode cX2_init 22 = .ok (.aload_n 0, 1) := by decide +kernel
theorem dX2_init_23 : decode cX2_init 23 = .ok (.iconst 0, 1) := by decide +kernel
theorem dX2_init_24 : decode cX2_init 24 = .ok (.putfield 19, 3) := by decide +kernel
theorem dX2_init_27 : decode cX2_init 27 = .ok (.aload_n 0, 1) := by decide +kernel
theorem dX2_init_28 : decode cX2_init 28 = .ok (.iconst (-1), 1) := by decide +kernel
theorem dX2_init_29 : decode cX2_init 29 = .ok (.putfield 23, 3) := by decide +kernel
theorem dX2_init_32 : decode cX2_init 32 = .ok (.aload_n 0, 1) := by decide +kernel
theorem dX2_init_33 : decode cX2_init 33 = .ok (.iconst 0, 1) := by decide +kernel
theorem dX2_init_34 : decode cX2_init 34 = .ok (.putfield 26, 3) := by decide +kernel
theorem dX2_init_37 : decode cX2_init 37 = .ok (.return_, 1) := by decide +kernel
set_option maxRecDepth 20000 in
theorem ggX2_add_X3_isPacket : GoodIn wsX2_add wsX3_isPacket := goodIn_r _ [9] (by decide +kernel) (by decide +kernel)
set_option maxRecDepth 20000 in
theorem gX2_add_X3_isPacket_n29 : GoodIn wsX2_add (wsX3_isPacket) := ggX2_add_X3_isPacket
theorem dX2_add_0 : decode cX2_add 0 = .ok (.iload_n 1, 1) := by decide +kernel
theorem dX2_add_1 : decode cX2_add 1 = .ok (.invokestatic 29, 3) := by decide +kernel
theorem dX2_add_4 : decode cX2_add 4 = .ok (.ifCond .eq 22, 3) := by decide +kernel
theorem dX2_add_7 : decode cX2_add 7 = .ok (.aload_n 0, 1) := by decide +kernel
theorem dX2_add_8 : decode cX2_add 8 = .ok (.getfield 9, 3) := by decide +kernel
theorem dX2_add_11 : decode cX2_add 11 = .ok (.iload_n 1, 1) := by decide +kernel
theorem dX2_add_12 : decode cX2_add 12 = .ok (.iconst 1, 1) := by decide +kernel
theorem dX2_add_13 : decode cX2_add 13 = .ok (.bastore, 1) := by decide +kernel
theorem dX2_add_14 : decode cX2_add 14 = .ok (.aload_n 0, 1) := by decide +kernel
theorem dX2_add_15 : decode cX2_add 15 = .ok (.aload_n 0, 1) := by decide +kernel
theorem dX2_add_16 : decode cX2_add 16 = .ok (.getfield 23, 3) := by decide +kernel
theorem dX2_add_19 : decode cX2_add 19 = .ok (.iload_n 1, 1) := by decide +kernel
theorem dX2_add_20 : decode cX2_add 20 = .ok (.invokestatic 33, 3) := by decide +kernel
theorem dX2_add_23 : decode cX2_add 23 = .ok (.putfield 23, 3) := by decide +kernel
theorem dX2_add_26 : decode cX2_add 26 = .ok (.return_, 1) := by decide +kernel
set_option maxRecDepth 20000 in
theorem ggX2_holds_X3_isPacket : GoodIn wsX2_holds wsX3_isPacket := goodIn_r _ [4] (by decide +kernel) (by decide +kernel)
set_option maxRecDepth 20000 in
theorem gX2_holds_X3_isPacket_n29 : GoodIn wsX2_holds (wsX3_isPacket) := ggX2_holds_X3_isPacket
theorem dX2_holds_0 : decode cX2_holds 0 = .ok (.iload_n 1, 1) := by decide +kernel
theorem dX2_holds_1 : decode cX2_holds 1 = .ok (.invokestatic 29, 3) := by decide +kernel
theorem dX2_holds_4 : decode cX2_holds 4 = .ok (.ifCond .eq 16, 3) := by decide +kernel
theorem dX2_holds_7 : decode cX2_holds 7 = .ok (.aload_n 0, 1) := by decide +kernel
theorem dX2_holds_8 : decode cX2_holds 8 = .ok (.getfield 9, 3) := by decide +kernel
theorem dX2_holds_11 : decode cX2_holds 11 = .ok (.iload_n 1, 1) := by decide +kernel
theorem dX2_holds_12 : decode cX2_holds 12 = .ok (.baload, 1) := by decide +kernel
theorem dX2_holds_13 : decode cX2_holds 13 = .ok (.ifCond .eq 7, 3) := by decide +kernel
theorem dX2_holds_16 : decode cX2_holds 16 = .ok (.iconst 1, 1) := by decide +kernel
theorem dX2_holds_17 : decode cX2_holds 17 = .ok (.goto 4, 3) := by decide +kernel
theorem dX2_holds_20 : decode cX2_holds 20 = .ok (.iconst 0, 1) := by decide +kernel
theorem dX2_holds_21 : decode cX2_holds 21 = .ok (.ireturn, 1) := by decide +kernel
theorem dX2_holdsFrame_0 : decode cX2_holdsFrame 0 = .ok (.iload_n 1, 1) := by decide +kernel
theorem dX2_holdsFrame_1 : decode cX2_holdsFrame 1 = .ok (.iconst 3, 1) := by decide +kernel
theorem dX2_holdsFrame_2 : decode cX2_holdsFrame 2 = .ok (.imul, 1) := by decide +kernel
theorem dX2_holdsFrame_3 : decode cX2_holdsFrame 3 = .ok (.istore_n 2, 1) := by decide +kernel
theorem dX2_holdsFrame_4 : decode cX2_holdsFrame 4 = .ok (.iload_n 1, 1) := by decide +kernel
theorem dX2_holdsFrame_5 : decode cX2_holdsFrame 5 = .ok (.ifCond .lt 44, 3) := by decide +kernel
theorem dX2_holdsFrame_8 : decode cX2_holdsFrame 8 = .ok (.iload_n 1, 1) := by decide +kernel
theorem dX2_holdsFrame_9 : decode cX2_holdsFrame 9 = .ok (.bipush 100, 2) := by decide +kernel
theorem dX2_holdsFrame_11 : decode cX2_holdsFrame 11 = .ok (.if_icmp .ge 38, 3) := by decide +kernel
theorem dX2_holdsFrame_14 : decode cX2_holdsFrame 14 = .ok (.aload_n 0, 1) := by decide +kernel
theorem dX2_holdsFrame_15 : decode cX2_holdsFrame 15 = .ok (.getfield 9, 3) := by decide +kernel
theorem dX2_holdsFrame_18 : decode cX2_holdsFrame 18 = .ok (.iload_n 2, 1) := by decide +kernel
theorem dX2_holdsFrame_19 : decode cX2_holdsFrame 19 = .ok (.baload, 1) := by decide +kernel
theorem dX2_holdsFrame_20 : decode cX2_holdsFrame 20 = .ok (.ifCond .eq 29, 3) := by decide +kernel
theorem dX2_holdsFrame_23 : decode cX2_holdsFrame 23 = .ok (.aload_n 0, 1) := by decide +kernel
theorem dX2_holdsFrame_24 : decode cX2_holdsFrame 24 = .ok (.getfield 9, 3) := by decide +kernel
theorem dX2_holdsFrame_27 : decode cX2_holdsFrame 27 = .ok (.iload_n 2, 1) := by decide +kernel
theorem dX2_holdsFrame_28 : decode cX2_holdsFrame 28 = .ok (.iconst 1, 1) := by decide +kernel
theorem dX2_holdsFrame_29 : decode cX2_holdsFrame 29 = .ok (.iadd, 1) := by decide +kernel
theorem dX2_holdsFrame_30 : decode cX2_holdsFrame 30 = .ok (.baload, 1) := by decide +kernel
theorem dX2_holdsFrame_31 : decode cX2_holdsFrame 31 = .ok (.ifCond .eq 18, 3) := by decide +kernel
theorem dX2_holdsFrame_34 : decode cX2_holdsFrame 34 = .ok (.aload_n 0, 1) := by decide +kernel
theorem dX2_holdsFrame_35 : decode cX2_holdsFrame 35 = .ok (.getfield 9, 3) := by decide +kernel
theorem dX2_holdsFrame_38 : decode cX2_holdsFrame 38 = .ok (.iload_n 2, 1) := by decide +kernel
theorem dX2_holdsFrame_39 : decode cX2_holdsFrame 39 = .ok (.iconst 2, 1) := by decide +kernel
theorem dX2_holdsFrame_40 : decode cX2_holdsFrame 40 = .ok (.iadd, 1) := by decide +kernel
theorem dX2_holdsFrame_41 : decode cX2_holdsFrame 41 = .ok (.baload, 1) := by decide +kernel
theorem dX2_holdsFrame_42 : decode cX2_holdsFrame 42 = .ok (.ifCond .eq 7, 3) := by decide +kernel
theorem dX2_holdsFrame_45 : decode cX2_holdsFrame 45 = .ok (.iconst 1, 1) := by decide +kernel
theorem dX2_holdsFrame_46 : decode cX2_holdsFrame 46 = .ok (.goto 4, 3) := by decide +kernel
theorem dX2_holdsFrame_49 : decode cX2_holdsFrame 49 = .ok (.iconst 0, 1) := by decide +kernel
theorem dX2_holdsFrame_50 : decode cX2_holdsFrame 50 = .ok (.ireturn, 1) := by decide +kernel
set_option maxRecDepth 20000 in
theorem ggX2_askForMissing_X2_holds : GoodIn wsX2_askForMissing wsX2_holds := goodIn_r _ [11, 12, 13, 14, 15, 22, 23, 24, 25, 26] (by decide +kernel) (by decide +kernel)
set_option maxRecDepth 20000 in
theorem gX2_askForMissing_X2_holds : GoodIn wsX2_askForMissing (wsV RX2 39 RX2 yX2_holds wsX2_holds) := goodIn_app (goodIn_of _ (by decide +kernel)) ggX2_askForMissing_X2_holds
set_option maxRecDepth 20000 in
theorem ggX2_askForMissing_X2_ask : GoodIn wsX2_askForMissing wsX2_ask := goodIn_r _ [19, 20, 21, 22, 23, 24, 25, 26] (by decide +kernel) (by decide +kernel)
set_option maxRecDepth 20000 in
theorem gX2_askForMissing_X2_ask : GoodIn wsX2_askForMissing (wsV RX2 42 RX2 yX2_ask wsX2_ask) := goodIn_app (goodIn_of _ (by decide +kernel)) ggX2_askForMissing_X2_ask
theorem dX2_askForMissing_0 : decode cX2_askForMissing 0 = .ok (.aload_n 0, 1) := by decide +kernel
theorem dX2_askForMissing_1 : decode cX2_askForMissing 1 = .ok (.getfield 26, 3) := by decide +kernel
theorem dX2_askForMissing_4 : decode cX2_askForMissing 4 = .ok (.istore_n 2, 1) := by decide +kernel
theorem dX2_askForMissing_5 : decode cX2_askForMissing 5 = .ok (.iload_n 2, 1) := by decide +kernel
theorem dX2_askForMissing_6 : decode cX2_askForMissing 6 = .ok (.aload_n 0, 1) := by decide +kernel
theorem dX2_askForMissing_7 : decode cX2_askForMissing 7 = .ok (.getfield 23, 3) := by decide +kernel
theorem dX2_askForMissing_10 : decode cX2_askForMissing 10 = .ok (.if_icmp .ge 29, 3) := by decide +kernel
theorem dX2_askForMissing_13 : decode cX2_askForMissing 13 = .ok (.aload_n 0, 1) := by decide +kernel
theorem dX2_askForMissing_14 : decode cX2_askForMissing 14 = .ok (.iload_n 2, 1) := by decide +kernel
theorem dX2_askForMissing_15 : decode cX2_askForMissing 15 = .ok (.invokevirtual 39, 3) := by decide +kernel
theorem dX2_askForMissing_18 : decode cX2_askForMissing 18 = .ok (.ifCond .ne 15, 3) := by decide +kernel
theorem dX2_askForMissing_21 : decode cX2_askForMissing 21 = .ok (.iload_n 2, 1) := by decide +kernel
theorem dX2_askForMissing_22 : decode cX2_askForMissing 22 = .ok (.iconst 3, 1) := by decide +kernel
theorem dX2_askForMissing_23 : decode cX2_askForMissing 23 = .ok (.idiv, 1) := by decide +kernel
theorem dX2_askForMissing_24 : decode cX2_askForMissing 24 = .ok (.iload_n 1, 1) := by decide +kernel
theorem dX2_askForMissing_25 : decode cX2_askForMissing 25 = .ok (.if_icmp .lt 8, 3) := by decide +kernel
theorem dX2_askForMissing_28 : decode cX2_askForMissing 28 = .ok (.aload_n 0, 1) := by decide +kernel
theorem dX2_askForMissing_29 : decode cX2_askForMissing 29 = .ok (.iload_n 2, 1) := by decide +kernel
theorem dX2_askForMissing_30 : decode cX2_askForMissing 30 = .ok (.invokevirtual 42, 3) := by decide +kernel
theorem dX2_askForMissing_33 : decode cX2_askForMissing 33 = .ok (.iinc 2 1, 3) := by decide +kernel
theorem dX2_askForMissing_36 : decode cX2_askForMissing 36 = .ok (.goto (-31), 3) := by decide +kernel
theorem dX2_askForMissing_39 : decode cX2_askForMissing 39 = .ok (.aload_n 0, 1) := by decide +kernel
theorem dX2_askForMissing_40 : decode cX2_askForMissing 40 = .ok (.aload_n 0, 1) := by decide +kernel
theorem dX2_askForMissing_41 : decode cX2_askForMissing 41 = .ok (.getfield 26, 3) := by decide +kernel
theorem dX2_askForMissing_44 : decode cX2_askForMissing 44 = .ok (.aload_n 0, 1) := by decide +kernel
theorem dX2_askForMissing_45 : decode cX2_askForMissing 45 = .ok (.getfield 23, 3) := by decide +kernel
theorem dX2_askForMissing_48 : decode cX2_askForMissing 48 = .ok (.invokestatic 33, 3) := by decide +kernel
theorem dX2_askForMissing_51 : decode cX2_askForMissing 51 = .ok (.putfield 26, 3) := by decide +kernel
theorem dX2_askForMissing_54 : decode cX2_askForMissing 54 = .ok (.return_, 1) := by decide +kernel
theorem dX2_ask_0 : decode cX2_ask 0 = .ok (.aload_n 0, 1) := by decide +kernel
theorem dX2_ask_1 : decode cX2_ask 1 = .ok (.getfield 19, 3) := by decide +kernel
theorem dX2_ask_4 : decode cX2_ask 4 = .ok (.sipush 300, 3) := by decide +kernel
theorem dX2_ask_7 : decode cX2_ask 7 = .ok (.if_icmp .ge 23, 3) := by decide +kernel
theorem dX2_ask_10 : decode cX2_ask 10 = .ok (.aload_n 0, 1) := by decide +kernel
theorem dX2_ask_11 : decode cX2_ask 11 = .ok (.getfield 15, 3) := by decide +kernel
theorem dX2_ask_14 : decode cX2_ask 14 = .ok (.aload_n 0, 1) := by decide +kernel
theorem dX2_ask_15 : decode cX2_ask 15 = .ok (.getfield 19, 3) := by decide +kernel
theorem dX2_ask_18 : decode cX2_ask 18 = .ok (.iload_n 1, 1) := by decide +kernel
theorem dX2_ask_19 : decode cX2_ask 19 = .ok (.iastore, 1) := by decide +kernel
theorem dX2_ask_20 : decode cX2_ask 20 = .ok (.aload_n 0, 1) := by decide +kernel
theorem dX2_ask_21 : decode cX2_ask 21 = .ok (.dup, 1) := by decide +kernel
theorem dX2_ask_22 : decode cX2_ask 22 = .ok (.getfield 19, 3) := by decide +kernel
theorem dX2_ask_25 : decode cX2_ask 25 = .ok (.iconst 1, 1) := by decide +kernel
theorem dX2_ask_26 : decode cX2_ask 26 = .ok (.iadd, 1) := by decide +kernel
theorem dX2_ask_27 : decode cX2_ask 27 = .ok (.putfield 19, 3) := by decide +kernel
theorem dX2_ask_30 : decode cX2_ask 30 = .ok (.return_, 1) := by decide +kernel
set_option maxRecDepth 20000 in
theorem ggX3_init_X1_init : GoodIn wsX3_init wsX1_init := goodIn_r _ [17, 18, 2, 3, 19, 20, 21, 22, 23, 24, 25, 26, 27, 28, 48, 49, 50, 51, 52, 53, 54, 55, 56] (by decide +kernel) (by decide +kernel)
set_option maxRecDepth 20000 in
theorem gX3_init_X1_init_n11 : GoodIn wsX3_init (wsX1_init) := ggX3_init_X1_init
set_option maxRecDepth 20000 in
theorem ggX3_init_X2_init : GoodIn wsX3_init wsX2_init := goodIn_r _ [30, 31, 2, 3, 32, 33, 19, 34, 35, 36, 37, 61, 62, 63, 64, 65] (by decide +kernel) (by decide +kernel)
set_option maxRecDepth 20000 in
theorem gX3_init_X2_init_n18 : GoodIn wsX3_init (wsX2_init) := ggX3_init_X2_init
set_option maxRecDepth 20000 in
theorem ggX3_init_X0_init : GoodIn wsX3_init wsX0_init := goodIn_r _ [40, 41, 2, 3, 19, 42, 43, 44, 45, 46, 47, 66, 67, 68, 69, 70, 71] (by decide +kernel) (by decide +kernel)
set_option maxRecDepth 20000 in
theorem gX3_init_X0_init : GoodIn wsX3_init (wsX0_init) := ggX3_init_X0_init
theorem dX3_init_0 : decode cX3_init 0 = .ok (.aload_n 0, 1) := by decide +kernel
theorem dX3_init_1 : decode cX3_init 1 = .ok (.invokespecial 3, 3) := by decide +kernel
theorem dX3_init_4 : decode cX3_init 4 = .ok (.aload_n 0, 1) := by decide +kernel
theorem dX3_init_5 : decode cX3_init 5 = .ok (.new 9, 3) := by decide +kernel
theorem dX3_init_8 : decode cX3_init 8 = .ok (.dup, 1) := by decide +kernel
theorem dX3_init_9 : decode cX3_init 9 = .ok (.invokespecial 11, 3) := by decide +kernel
theorem dX3_init_12 : decode cX3_init 12 = .ok (.putfield 12, 3) := by decide +kernel
theorem dX3_init_15 : decode cX3_init 15 = .ok (.aload_n 0, 1) := by decide +kernel
theorem dX3_init_16 : decode cX3_init 16 = .ok (.new 16, 3) := by decide +kernel
theorem dX3_init_19 : decode cX3_init 19 = .ok (.dup, 1) := by decide +kernel
theorem dX3_init_20 : decode cX3_init 20 = .ok (.invokespecial 18, 3) := by decide +kernel
theorem dX3_init_23 : decode cX3_init 23 = .ok (.putfield 19, 3) := by decide +kernel
theorem dX3_init_26 : decode cX3_init 26 = .ok (.aload_n 0, 1) := by decide +kernel
theorem dX3_init_27 : decode cX3_init 27 = .ok (.new 23, 3) := by decide +kernel
theorem dX3_init_30 : decode cX3_init 30 = .ok (.dup, 1) := by decide +kernel
theorem dX3_init_31 : decode cX3_init 31 = .ok (.aload_n 0, 1) := by decide +kernel
theorem dX3_init_32 : decode cX3_init 32 = .ok (.getfield 19, 3) := by decide +kernel
theorem dX3_init_35 : decode cX3_init 35 = .ok (.invokespecial 25, 3) := by decide +kernel
theorem dX3_init_38 : decode cX3_init 38 = .ok (.putfield 28, 3) := by decide +kernel
theorem dX3_init_41 : decode cX3_init 41 = .ok (.return_, 1) := by decide +kernel
set_option maxRecDepth 20000 in
theorem ggX3_set_X3_isFromOneTo : GoodIn wsX3_set wsX3_isFromOneTo := goodIn_r _ [7] (by decide +kernel) (by decide +kernel)
set_option maxRecDepth 20000 in
theorem gX3_set_X3_isFromOneTo : GoodIn wsX3_set (va_wsS RX3 32 yX3_isFromOneTo wsX3_isFromOneTo) := goodIn_app (goodIn_of _ (by decide +kernel)) ggX3_set_X3_isFromOneTo
theorem dX3_set_0 : decode cX3_set 0 = .ok (.iload_n 1, 1) := by decide +kernel
theorem dX3_set_1 : decode cX3_set 1 = .ok (.bipush 32, 2) := by decide +kernel
theorem dX3_set_3 : decode cX3_set 3 = .ok (.invokestatic 32, 3) := by decide +kernel
theorem dX3_set_6 : decode cX3_set 6 = .ok (.ifCond .eq 31, 3) := by decide +kernel
theorem dX3_set_9 : decode cX3_set 9 = .ok (.iload_n 2, 1) := by decide +kernel
theorem dX3_set_10 : decode cX3_set 10 = .ok (.bipush 32, 2) := by decide +kernel
theorem dX3_set_12 : decode cX3_set 12 = .ok (.invokestatic 32, 3) := by decide +kernel
theorem dX3_set_15 : decode cX3_set 15 = .ok (.ifCond .eq 22, 3) := by decide +kernel
theorem dX3_set_18 : decode cX3_set 18 = .ok (.iload_n 3, 1) := by decide +kernel
theorem dX3_set_19 : decode cX3_set 19 = .ok (.bipush 50, 2) := by decide +kernel
theorem dX3_set_21 : decode cX3_set 21 = .ok (.invokestatic 32, 3) := by decide +kernel
theorem dX3_set_24 : decode cX3_set 24 = .ok (.ifCond .eq 13, 3) := by decide +kernel
theorem dX3_set_27 : decode cX3_set 27 = .ok (.iload 4, 2) := by decide +kernel
theorem dX3_set_29 : decode cX3_set 29 = .ok (.bipush 32, 2) := by decide +kernel
theorem dX3_set_31 : decode cX3_set 31 = .ok (.invokestatic 32, 3) := by decide +kernel
theorem dX3_set_34 : decode cX3_set 34 = .ok (.ifCond .ne 13, 3) := by decide +kernel
theorem dX3_set_37 : decode cX3_set 37 = .ok (.new 36, 3) := by decide +kernel
theorem dX3_set_40 : decode cX3_set 40 = .ok (.dup, 1) := by decide +kernel
theorem dX3_set_41 : decode cX3_set 41 = .ok (.ldc 38, 2) := by decide +kernel
theorem dX3_set_43 : decode cX3_set 43 = .ok (.invokespecial 40, 3) := by decide +kernel
theorem dX3_set_46 : decode cX3_set 46 = .ok (.athrow, 1) := by decide +kernel
theorem dX3_set_47 : decode cX3_set 47 = .ok (.aload_n 0, 1) := by decide +kernel
theorem dX3_set_48 : decode cX3_set 48 = .ok (.getfield 12, 3) := by decide +kernel
theorem dX3_set_51 : decode cX3_set 51 = .ok (.iload_n 1, 1) := by decide +kernel
theorem dX3_set_52 : decode cX3_set 52 = .ok (.putfield 43, 3) := by decide +kernel
theorem dX3_set_55 : decode cX3_set 55 = .ok (.aload_n 0, 1) := by decide +kernel
theorem dX3_set_56 : decode cX3_set 56 = .ok (.getfield 12, 3) := by decide +kernel
theorem dX3_set_59 : decode cX3_set 59 = .ok (.iload_n 2, 1) := by decide +kernel
theorem dX3_set_60 : decode cX3_set 60 = .ok (.putfield 47, 3) := by decide +kernel
theorem dX3_set_63 : decode cX3_set 63 = .ok (.aload_n 0, 1) := by decide +kernel
theorem dX3_set_64 : decode cX3_set 64 = .ok (.getfield 12, 3) := by decide +kernel
theorem dX3_set_67 : decode cX3_set 67 = .ok (.iload_n 3, 1) := by decide +kernel
theorem dX3_set_68 : decode cX3_set 68 = .ok (.putfield 50, 3) := by decide +kernel
theorem dX3_set_71 : decode cX3_set 71 = .ok (.aload_n 0, 1) := by decide +kernel
theorem dX3_set_72 : decode cX3_set 72 = .ok (.getfield 12, 3) := by decide +kernel
theorem dX3_set_75 : decode cX3_set 75 = .ok (.iload 4, 2) := by decide +kernel
theorem dX3_set_77 : decode cX3_set 77 = .ok (.putfield 53, 3) := by decide +kernel
theorem dX3_set_80 : decode cX3_set 80 = .ok (.return_, 1) := by decide +kernel
set_option maxRecDepth 20000 in
theorem ggX3_arrive_X3_isPacket : GoodIn wsX3_arrive wsX3_isPacket := goodIn_r _ [8] (by decide +kernel) (by decide +kernel)
set_option maxRecDepth 20000 in
theorem gX3_arrive_X3_isPacket : GoodIn wsX3_arrive (va_wsS RX3 56 yX3_isPacket wsX3_isPacket) := goodIn_app (goodIn_of _ (by decide +kernel)) ggX3_arrive_X3_isPacket
set_option maxRecDepth 20000 in
theorem ggX3_arrive_X1_put : GoodIn wsX3_arrive wsX1_put := goodIn_r _ [13, 14, 15, 16, 17, 18, 23, 24, 25, 26, 27, 28, 29, 30, 31] (by decide +kernel) (by decide +kernel)
set_option maxRecDepth 20000 in
theorem gX3_arrive_X1_put : GoodIn wsX3_arrive (wsV RX3 68 RX1 yX1_put wsX1_put) := goodIn_app (goodIn_of _ (by decide +kernel)) ggX3_arrive_X1_put
theorem dX3_arrive_0 : decode cX3_arrive 0 = .ok (.iload_n 1, 1) := by decide +kernel
theorem dX3_arrive_1 : decode cX3_arrive 1 = .ok (.invokestatic 56, 3) := by decide +kernel
theorem dX3_arrive_4 : decode cX3_arrive 4 = .ok (.ifCond .ne 13, 3) := by decide +kernel
theorem dX3_arrive_7 : decode cX3_arrive 7 = .ok (.new 60, 3) := by decide +kernel
theorem dX3_arrive_10 : decode cX3_arrive 10 = .ok (.dup, 1) := by decide +kernel
theorem dX3_arrive_11 : decode cX3_arrive 11 = .ok (.ldc 62, 2) := by decide +kernel
theorem dX3_arrive_13 : decode cX3_arrive 13 = .ok (.invokespecial 64, 3) := by decide +kernel
theorem dX3_arrive_16 : decode cX3_arrive 16 = .ok (.athrow, 1) := by decide +kernel
theorem dX3_arrive_17 : decode cX3_arrive 17 = .ok (.aload_n 0, 1) := by decide +kernel
theorem dX3_arrive_18 : decode cX3_arrive 18 = .ok (.getfield 12, 3) := by decide +kernel
theorem dX3_arrive_21 : decode cX3_arrive 21 = .ok (.iload_n 1, 1) := by decide +kernel
theorem dX3_arrive_22 : decode cX3_arrive 22 = .ok (.aload_n 0, 1) := by decide +kernel
theorem dX3_arrive_23 : decode cX3_arrive 23 = .ok (.getfield 65, 3) := by decide +kernel
theorem dX3_arrive_26 : decode cX3_arrive 26 = .ok (.invokevirtual 68, 3) := by decide +kernel
theorem dX3_arrive_29 : decode cX3_arrive 29 = .ok (.ifCond .eq 13, 3) := by decide +kernel
theorem dX3_arrive_32 : decode cX3_arrive 32 = .ok (.aload_n 0, 1) := by decide +kernel
theorem dX3_arrive_33 : decode cX3_arrive 33 = .ok (.getfield 12, 3) := by decide +kernel
theorem dX3_arrive_36 : decode cX3_arrive 36 = .ok (.getfield 71, 3) := by decide +kernel
theorem dX3_arrive_39 : decode cX3_arrive 39 = .ok (.goto 4, 3) := by decide +kernel
theorem dX3_arrive_42 : decode cX3_arrive 42 = .ok (.iconst (-1), 1) := by decide +kernel
theorem dX3_arrive_43 : decode cX3_arrive 43 = .ok (.ireturn, 1) := by decide +kernel
set_option maxRecDepth 20000 in
theorem ggX3_arriveRow_X3_isPacket : GoodIn wsX3_arriveRow wsX3_isPacket := goodIn_r _ [10] (by decide +kernel) (by decide +kernel)
set_option maxRecDepth 20000 in
theorem gX3_arriveRow_X3_isPacket : GoodIn wsX3_arriveRow (va_wsS RX3 56 yX3_isPacket wsX3_isPacket) := goodIn_app (goodIn_of _ (by decide +kernel)) ggX3_arriveRow_X3_isPacket
set_option maxRecDepth 20000 in
theorem ggX3_arriveRow_X3_isFromOneTo : GoodIn wsX3_arriveRow wsX3_isFromOneTo := goodIn_r _ [13] (by decide +kernel) (by decide +kernel)
set_option maxRecDepth 20000 in
theorem gX3_arriveRow_X3_isFromOneTo : GoodIn wsX3_arriveRow (va_wsS RX3 32 yX3_isFromOneTo wsX3_isFromOneTo) := goodIn_app (goodIn_of _ (by decide +kernel)) ggX3_arriveRow_X3_isFromOneTo
set_option maxRecDepth 20000 in
theorem ggX3_arriveRow_X1_put : GoodIn wsX3_arriveRow wsX1_put := goodIn_r _ [18, 19, 20, 21, 22, 23, 28, 29, 30, 31, 32, 33, 34, 35, 36] (by decide +kernel) (by decide +kernel)
set_option maxRecDepth 20000 in
theorem gX3_arriveRow_X1_put : GoodIn wsX3_arriveRow (wsV RX3 68 RX1 yX1_put wsX1_put) := goodIn_app (goodIn_of _ (by decide +kernel)) ggX3_arriveRow_X1_put
theorem dX3_arriveRow_0 : decode cX3_arriveRow 0 = .ok (.iload_n 1, 1) := by decide +kernel
theorem dX3_arriveRow_1 : decode cX3_arriveRow 1 = .ok (.invokestatic 56, 3) := by decide +kernel
theorem dX3_arriveRow_4 : decode cX3_arriveRow 4 = .ok (.ifCond .eq 12, 3) := by decide +kernel
theorem dX3_arriveRow_7 : decode cX3_arriveRow 7 = .ok (.iload_n 2, 1) := by decide +kernel
theorem dX3_arriveRow_8 : decode cX3_arriveRow 8 = .ok (.sipush 300, 3) := by decide +kernel
theorem dX3_arriveRow_11 : decode cX3_arriveRow 11 = .ok (.iload_n 1, 1) := by decide +kernel
theorem dX3_arriveRow_12 : decode cX3_arriveRow 12 = .ok (.isub, 1) := by decide +kernel
theorem dX3_arriveRow_13 : decode cX3_arriveRow 13 = .ok (.if_icmp .le 13, 3) := by decide +kernel
theorem dX3_arriveRow_16 : decode cX3_arriveRow 16 = .ok (.new 60, 3) := by decide +kernel
theorem dX3_arriveRow_19 : decode cX3_arriveRow 19 = .ok (.dup, 1) := by decide +kernel
theorem dX3_arriveRow_20 : decode cX3_arriveRow 20 = .ok (.ldc 74, 2) := by decide +kernel
theorem dX3_arriveRow_22 : decode cX3_arriveRow 22 = .ok (.invokespecial 64, 3) := by decide +kernel
theorem dX3_arriveRow_25 : decode cX3_arriveRow 25 = .ok (.athrow, 1) := by decide +kernel
theorem dX3_arriveRow_26 : decode cX3_arriveRow 26 = .ok (.iload_n 2, 1) := by decide +kernel
theorem dX3_arriveRow_27 : decode cX3_arriveRow 27 = .ok (.bipush 30, 2) := by decide +kernel
theorem dX3_arriveRow_29 : decode cX3_arriveRow 29 = .ok (.invokestatic 32, 3) := by decide +kernel
theorem dX3_arriveRow_32 : decode cX3_arriveRow 32 = .ok (.ifCond .ne 13, 3) := by decide +kernel
theorem dX3_arriveRow_35 : decode cX3_arriveRow 35 = .ok (.new 36, 3) := by decide +kernel
theorem dX3_arriveRow_38 : decode cX3_arriveRow 38 = .ok (.dup, 1) := by decide +kernel
theorem dX3_arriveRow_39 : decode cX3_arriveRow 39 = .ok (.ldc 76, 2) := by decide +kernel
theorem dX3_arriveRow_41 : decode cX3_arriveRow 41 = .ok (.invokespecial 40, 3) := by decide +kernel
theorem dX3_arriveRow_44 : decode cX3_arriveRow 44 = .ok (.athrow, 1) := by decide +kernel
theorem dX3_arriveRow_45 : decode cX3_arriveRow 45 = .ok (.iconst 0, 1) := by decide +kernel
theorem dX3_arriveRow_46 : decode cX3_arriveRow 46 = .ok (.istore_n 3, 1) := by decide +kernel
theorem dX3_arriveRow_47 : decode cX3_arriveRow 47 = .ok (.iconst 0, 1) := by decide +kernel
theorem dX3_arriveRow_48 : decode cX3_arriveRow 48 = .ok (.istore 4, 2) := by decide +kernel
theorem dX3_arriveRow_50 : decode cX3_arriveRow 50 = .ok (.iload 4, 2) := by decide +kernel
theorem dX3_arriveRow_52 : decode cX3_arriveRow 52 = .ok (.iload_n 2, 1) := by decide +kernel
theorem dX3_arriveRow_53 : decode cX3_arriveRow 53 = .ok (.if_icmp .ge 30, 3) := by decide +kernel
theorem dX3_arriveRow_56 : decode cX3_arriveRow 56 = .ok (.aload_n 0, 1) := by decide +kernel
theorem dX3_arriveRow_57 : decode cX3_arriveRow 57 = .ok (.getfield 12, 3) := by decide +kernel
theorem dX3_arriveRow_60 : decode cX3_arriveRow 60 = .ok (.iload_n 1, 1) := by decide +kernel
theorem dX3_arriveRow_61 : decode cX3_arriveRow 61 = .ok (.iload 4, 2) := by decide +kernel
theorem dX3_arriveRow_63 : decode cX3_arriveRow 63 = .ok (.iadd, 1) := by decide +kernel
theorem dX3_arriveRow_64 : decode cX3_arriveRow 64 = .ok (.aload_n 0, 1) := by decide +kernel
theorem dX3_arriveRow_65 : decode cX3_arriveRow 65 = .ok (.getfield 65, 3) := by decide +kernel
theorem dX3_arriveRow_68 : decode cX3_arriveRow 68 = .ok (.invokevirtual 68, 3) := by decide +kernel
theorem dX3_arriveRow_71 : decode cX3_arriveRow 71 = .ok (.ifCond .ne 6, 3) := by decide +kernel
theorem dX3_arriveRow_74 : decode cX3_arriveRow 74 = .ok (.iinc 3 1, 3) := by decide +kernel
theorem dX3_arriveRow_77 : decode cX3_arriveRow 77 = .ok (.iinc 4 1, 3) := by decide +kernel
theorem dX3_arriveRow_80 : decode cX3_arriveRow 80 = .ok (.goto (-30), 3) := by decide +kernel
theorem dX3_arriveRow_83 : decode cX3_arriveRow 83 = .ok (.iload_n 3, 1) := by decide +kernel
theorem dX3_arriveRow_84 : decode cX3_arriveRow 84 = .ok (.ireturn, 1) := by decide +kernel
set_option maxRecDepth 20000 in
theorem ggX3_advance_X3_isFromOneTo : GoodIn wsX3_advance wsX3_isFromOneTo := goodIn_r _ [9] (by decide +kernel) (by decide +kernel)
set_option maxRecDepth 20000 in
theorem gX3_advance_X3_isFromOneTo : GoodIn wsX3_advance (va_wsS RX3 32 yX3_isFromOneTo wsX3_isFromOneTo) := goodIn_app (goodIn_of _ (by decide +kernel)) ggX3_advance_X3_isFromOneTo
set_option maxRecDepth 20000 in
theorem ggX3_advance_X3_passTick : GoodIn wsX3_advance wsX3_passTick := goodIn_r _ [13, 14, 5, 15, 16, 17, 18, 19, 20, 21, 22, 23, 24, 25, 26, 27, 28, 29, 30, 31, 32, 33, 34, 35, 36, 37, 38, 39, 40, 41, 42, 43, 44, 45, 46, 47, 48, 49, 50, 51, 8, 52, 53, 54, 55, 56, 57, 58, 59, 60, 61, 62, 63, 64, 65, 66, 67, 68, 69, 70, 71, 72, 73, 74, 75, 76, 77, 78, 79, 80, 81, 82, 83, 84, 85, 86, 87, 88, 89, 90, 91, 92, 93, 94, 95, 96, 97, 98, 99, 100, 101, 102, 103, 104, 105, 106, 107, 108, 109, 110, 111, 112, 113, 114, 115, 116, 117, 118, 119, 120, 121, 122, 123, 124, 125, 126, 127, 128, 129, 130, 131, 132, 133, 134, 135, 136, 137, 138, 139, 140, 141, 142, 143, 144, 145, 146, 147, 148, 149, 150] (by decide +kernel) (by decide +kernel)
set_option maxRecDepth 20000 in
theorem gX3_advance_X3_passTick : GoodIn wsX3_advance (wsV RX3 85 RX3 yX3_passTick wsX3_passTick) := goodIn_app (goodIn_of _ (by decide +kernel)) ggX3_advance_X3_passTick
theorem dX3_advance_0 : decode cX3_advance 0 = .ok (.iload_n 1, 1) := by decide +kernel
theorem dX3_advance_1 : decode cX3_advance 1 = .ok (.bipush 100, 2) := by decide +kernel
theorem dX3_advance_3 : decode cX3_advance 3 = .ok (.invokestatic 32, 3) := by decide +kernel
theorem dX3_advance_6 : decode cX3_advance 6 = .ok (.ifCond .ne 13, 3) := by decide +kernel
theorem dX3_advance_9 : decode cX3_advance 9 = .ok (.new 36, 3) := by decide +kernel
theorem dX3_advance_12 : decode cX3_advance 12 = .ok (.dup, 1) := by decide +kernel
theorem dX3_advance_13 : decode cX3_advance 13 = .ok (.ldc 78, 2) := by decide +kernel
theorem dX3_advance_15 : decode cX3_advance 15 = .ok (.invokespecial 40, 3) := by decide +kernel
theorem dX3_advance_18 : decode cX3_advance 18 = .ok (.athrow, 1) := by decide +kernel
theorem dX3_advance_19 : decode cX3_advance 19 = .ok (.aload_n 0, 1) := by decide +kernel
theorem dX3_advance_20 : decode cX3_advance 20 = .ok (.getfield 65, 3) := by decide +kernel
theorem dX3_advance_23 : decode cX3_advance 23 = .ok (.iload_n 1, 1) := by decide +kernel
theorem dX3_advance_24 : decode cX3_advance 24 = .ok (.iadd, 1) := by decide +kernel
theorem dX3_advance_25 : decode cX3_advance 25 = .ok (.sipush 20000, 3) := by decide +kernel
theorem dX3_advance_28 : decode cX3_advance 28 = .ok (.if_icmp .le 13, 3) := by decide +kernel
theorem dX3_advance_31 : decode cX3_advance 31 = .ok (.new 80, 3) := by decide +kernel
theorem dX3_advance_34 : decode cX3_advance 34 = .ok (.dup, 1) := by decide +kernel
theorem dX3_advance_35 : decode cX3_advance 35 = .ok (.ldc 82, 2) := by decide +kernel
theorem dX3_advance_37 : decode cX3_advance 37 = .ok (.invokespecial 84, 3) := by decide +kernel
theorem dX3_advance_40 : decode cX3_advance 40 = .ok (.athrow, 1) := by decide +kernel
theorem dX3_advance_41 : decode cX3_advance 41 = .ok (.iconst 0, 1) := by decide +kernel
theorem dX3_advance_42 : decode cX3_advance 42 = .ok (.istore_n 2, 1) := by decide +kernel
theorem dX3_advance_43 : decode cX3_advance 43 = .ok (.iload_n 2, 1) := by decide +kernel
theorem dX3_advance_44 : decode cX3_advance 44 = .ok (.iload_n 1, 1) := by decide +kernel
theorem dX3_advance_45 : decode cX3_advance 45 = .ok (.if_icmp .ge 13, 3) := by decide +kernel
theorem dX3_advance_48 : decode cX3_advance 48 = .ok (.aload_n 0, 1) := by decide +kernel
theorem dX3_advance_49 : decode cX3_advance 49 = .ok (.invokevirtual 85, 3) := by decide +kernel
theorem dX3_advance_52 : decode cX3_advance 52 = .ok (.iinc 2 1, 3) := by decide +kernel
theorem dX3_advance_55 : decode cX3_advance 55 = .ok (.goto (-12), 3) := by decide +kernel
theorem dX3_advance_58 : decode cX3_advance 58 = .ok (.aload_n 0, 1) := by decide +kernel
theorem dX3_advance_59 : decode cX3_advance 59 = .ok (.getfield 65, 3) := by decide +kernel
theorem dX3_advance_62 : decode cX3_advance 62 = .ok (.ireturn, 1) := by decide +kernel
set_option maxRecDepth 20000 in
theorem ggX3_reset_X1_loseAll : GoodIn wsX3_reset wsX1_loseAll := goodIn_r _ [6, 7, 8, 9, 14, 15, 16, 17, 18, 19, 20, 21, 22] (by decide +kernel) (by decide +kernel)
set_option maxRecDepth 20000 in
theorem gX3_reset_X1_loseAll : GoodIn wsX3_reset (wsV RX3 88 RX1 yX1_loseAll wsX1_loseAll) := goodIn_app (goodIn_of _ (by decide +kernel)) ggX3_reset_X1_loseAll
theorem dX3_reset_0 : decode cX3_reset 0 = .ok (.aload_n 0, 1) := by decide +kernel
theorem dX3_reset_1 : decode cX3_reset 1 = .ok (.getfield 12, 3) := by decide +kernel
theorem dX3_reset_4 : decode cX3_reset 4 = .ok (.invokevirtual 88, 3) := by decide +kernel
theorem dX3_reset_7 : decode cX3_reset 7 = .ok (.ireturn, 1) := by decide +kernel
theorem dX3_tick_0 : decode cX3_tick 0 = .ok (.aload_n 0, 1) := by decide +kernel
theorem dX3_tick_1 : decode cX3_tick 1 = .ok (.getfield 65, 3) := by decide +kernel
theorem dX3_tick_4 : decode cX3_tick 4 = .ok (.ireturn, 1) := by decide +kernel
theorem dX3_waiting_0 : decode cX3_waiting 0 = .ok (.aload_n 0, 1) := by decide +kernel
theorem dX3_waiting_1 : decode cX3_waiting 1 = .ok (.getfield 12, 3) := by decide +kernel
theorem dX3_waiting_4 : decode cX3_waiting 4 = .ok (.getfield 71, 3) := by decide +kernel
theorem dX3_waiting_7 : decode cX3_waiting 7 = .ok (.ireturn, 1) := by decide +kernel
theorem dX3_lost_0 : decode cX3_lost 0 = .ok (.aload_n 0, 1) := by decide +kernel
theorem dX3_lost_1 : decode cX3_lost 1 = .ok (.getfield 12, 3) := by decide +kernel
theorem dX3_lost_4 : decode cX3_lost 4 = .ok (.getfield 92, 3) := by decide +kernel
theorem dX3_lost_7 : decode cX3_lost 7 = .ok (.ireturn, 1) := by decide +kernel
theorem dX3_isPolled_0 : decode cX3_isPolled 0 = .ok (.aload_n 0, 1) := by decide +kernel
theorem dX3_isPolled_1 : decode cX3_isPolled 1 = .ok (.getfield 12, 3) := by decide +kernel
theorem dX3_isPolled_4 : decode cX3_isPolled 4 = .ok (.getfield 95, 3) := by decide +kernel
theorem dX3_isPolled_7 : decode cX3_isPolled 7 = .ok (.ireturn, 1) := by decide +kernel
set_option maxRecDepth 20000 in
theorem ggX3_has_X3_isPacket : GoodIn wsX3_has wsX3_isPacket := goodIn_r _ [7] (by decide +kernel) (by decide +kernel)
set_option maxRecDepth 20000 in
theorem gX3_has_X3_isPacket : GoodIn wsX3_has (va_wsS RX3 56 yX3_isPacket wsX3_isPacket) := goodIn_app (goodIn_of _ (by decide +kernel)) ggX3_has_X3_isPacket
set_option maxRecDepth 20000 in
theorem ggX3_has_X2_holds : GoodIn wsX3_has wsX2_holds := goodIn_r _ [12, 13, 5, 6, 7, 18, 19, 20, 21, 22] (by decide +kernel) (by decide +kernel)
set_option maxRecDepth 20000 in
theorem gX3_has_X2_holds : GoodIn wsX3_has (wsV RX3 99 RX2 yX2_holds wsX2_holds) := goodIn_app (goodIn_of _ (by decide +kernel)) ggX3_has_X2_holds
theorem dX3_has_0 : decode cX3_has 0 = .ok (.iload_n 1, 1) := by decide +kernel
theorem dX3_has_1 : decode cX3_has 1 = .ok (.invokestatic 56, 3) := by decide +kernel
theorem dX3_has_4 : decode cX3_has 4 = .ok (.ifCond .ne 13, 3) := by decide +kernel
theorem dX3_has_7 : decode cX3_has 7 = .ok (.new 60, 3) := by decide +kernel
theorem dX3_has_10 : decode cX3_has 10 = .ok (.dup, 1) := by decide +kernel
theorem dX3_has_11 : decode cX3_has 11 = .ok (.ldc 62, 2) := by decide +kernel
theorem dX3_has_13 : decode cX3_has 13 = .ok (.invokespecial 64, 3) := by decide +kernel
theorem dX3_has_16 : decode cX3_has 16 = .ok (.athrow, 1) := by decide +kernel
theorem dX3_has_17 : decode cX3_has 17 = .ok (.aload_n 0, 1) := by decide +kernel
theorem dX3_has_18 : decode cX3_has 18 = .ok (.getfield 19, 3) := by decide +kernel
theorem dX3_has_21 : decode cX3_has 21 = .ok (.iload_n 1, 1) := by decide +kernel
theorem dX3_has_22 : decode cX3_has 22 = .ok (.invokevirtual 99, 3) := by decide +kernel
theorem dX3_has_25 : decode cX3_has 25 = .ok (.ireturn, 1) := by decide +kernel
theorem dX3_askedAt_0 : decode cX3_askedAt 0 = .ok (.iload_n 1, 1) := by decide +kernel
theorem dX3_askedAt_1 : decode cX3_askedAt 1 = .ok (.ifCond .lt 14, 3) := by decide +kernel
theorem dX3_askedAt_4 : decode cX3_askedAt 4 = .ok (.iload_n 1, 1) := by decide +kernel
theorem dX3_askedAt_5 : decode cX3_askedAt 5 = .ok (.aload_n 0, 1) := by decide +kernel
theorem dX3_askedAt_6 : decode cX3_askedAt 6 = .ok (.getfield 19, 3) := by decide +kernel
theorem dX3_askedAt_9 : decode cX3_askedAt 9 = .ok (.getfield 102, 3) := by decide +kernel
theorem dX3_askedAt_12 : decode cX3_askedAt 12 = .ok (.if_icmp .lt 13, 3) := by decide +kernel
theorem dX3_askedAt_15 : decode cX3_askedAt 15 = .ok (.new 60, 3) := by decide +kernel
theorem dX3_askedAt_18 : decode cX3_askedAt 18 = .ok (.dup, 1) := by decide +kernel
theorem dX3_askedAt_19 : decode cX3_askedAt 19 = .ok (.ldc 105, 2) := by decide +kernel
theorem dX3_askedAt_21 : decode cX3_askedAt 21 = .ok (.invokespecial 64, 3) := by decide +kernel
theorem dX3_askedAt_24 : decode cX3_askedAt 24 = .ok (.athrow, 1) := by decide +kernel
theorem dX3_askedAt_25 : decode cX3_askedAt 25 = .ok (.aload_n 0, 1) := by decide +kernel
theorem dX3_askedAt_26 : decode cX3_askedAt 26 = .ok (.getfield 19, 3) := by decide +kernel
theorem dX3_askedAt_29 : decode cX3_askedAt 29 = .ok (.getfield 107, 3) := by decide +kernel
theorem dX3_askedAt_32 : decode cX3_askedAt 32 = .ok (.iload_n 1, 1) := by decide +kernel
theorem dX3_askedAt_33 : decode cX3_askedAt 33 = .ok (.iaload, 1) := by decide +kernel
theorem dX3_askedAt_34 : decode cX3_askedAt 34 = .ok (.ireturn, 1) := by decide +kernel
theorem dX3_asked_0 : decode cX3_asked 0 = .ok (.aload_n 0, 1) := by decide +kernel
theorem dX3_asked_1 : decode cX3_asked 1 = .ok (.getfield 19, 3) := by decide +kernel
theorem dX3_asked_4 : decode cX3_asked 4 = .ok (.getfield 102, 3) := by decide +kernel
theorem dX3_asked_7 : decode cX3_asked 7 = .ok (.ireturn, 1) := by decide +kernel
set_option maxRecDepth 20000 in
theorem ggX3_kindOf_X3_isFrame : GoodIn wsX3_kindOf wsX3_isFrame := goodIn_r _ [6] (by decide +kernel) (by decide +kernel)
set_option maxRecDepth 20000 in
theorem gX3_kindOf_X3_isFrame : GoodIn wsX3_kindOf (va_wsS RX3 111 yX3_isFrame wsX3_isFrame) := goodIn_app (goodIn_of _ (by decide +kernel)) ggX3_kindOf_X3_isFrame
set_option maxRecDepth 20000 in
theorem ggX3_kindOf_X0_kind : GoodIn wsX3_kindOf wsX0_kind := goodIn_r _ [10] (by decide +kernel) (by decide +kernel)
set_option maxRecDepth 20000 in
theorem gX3_kindOf_X0_kind : GoodIn wsX3_kindOf (va_wsS RX3 116 yX0_kind wsX0_kind) := goodIn_app (goodIn_of _ (by decide +kernel)) ggX3_kindOf_X0_kind
theorem dX3_kindOf_0 : decode cX3_kindOf 0 = .ok (.iload_n 1, 1) := by decide +kernel
theorem dX3_kindOf_1 : decode cX3_kindOf 1 = .ok (.invokestatic 111, 3) := by decide +kernel
theorem dX3_kindOf_4 : decode cX3_kindOf 4 = .ok (.ifCond .ne 13, 3) := by decide +kernel
theorem dX3_kindOf_7 : decode cX3_kindOf 7 = .ok (.new 60, 3) := by decide +kernel
theorem dX3_kindOf_10 : decode cX3_kindOf 10 = .ok (.dup, 1) := by decide +kernel
theorem dX3_kindOf_11 : decode cX3_kindOf 11 = .ok (.ldc 114, 2) := by decide +kernel
theorem dX3_kindOf_13 : decode cX3_kindOf 13 = .ok (.invokespecial 64, 3) := by decide +kernel
theorem dX3_kindOf_16 : decode cX3_kindOf 16 = .ok (.athrow, 1) := by decide +kernel
theorem dX3_kindOf_17 : decode cX3_kindOf 17 = .ok (.iload_n 1, 1) := by decide +kernel
theorem dX3_kindOf_18 : decode cX3_kindOf 18 = .ok (.invokestatic 116, 3) := by decide +kernel
theorem dX3_kindOf_21 : decode cX3_kindOf 21 = .ok (.ireturn, 1) := by decide +kernel
set_option maxRecDepth 20000 in
theorem ggX3_need_X3_isFrame : GoodIn wsX3_need wsX3_isFrame := goodIn_r _ [6] (by decide +kernel) (by decide +kernel)
set_option maxRecDepth 20000 in
theorem gX3_need_X3_isFrame : GoodIn wsX3_need (va_wsS RX3 111 yX3_isFrame wsX3_isFrame) := goodIn_app (goodIn_of _ (by decide +kernel)) ggX3_need_X3_isFrame
set_option maxRecDepth 20000 in
theorem ggX3_need_X0_needBehind : GoodIn wsX3_need wsX0_needBehind := goodIn_r _ [10, 11, 12, 9, 13] (by decide +kernel) (by decide +kernel)
set_option maxRecDepth 20000 in
theorem gX3_need_X0_needBehind : GoodIn wsX3_need (va_wsS RX3 120 yX0_needBehind wsX0_needBehind) := goodIn_app (goodIn_of _ (by decide +kernel)) ggX3_need_X0_needBehind
set_option maxRecDepth 20000 in
theorem ggX3_need_X0_needBefore : GoodIn wsX3_need wsX0_needBefore := goodIn_r _ [16, 11, 12, 9, 13] (by decide +kernel) (by decide +kernel)
set_option maxRecDepth 20000 in
theorem gX3_need_X0_needBefore : GoodIn wsX3_need (va_wsS RX3 123 yX0_needBefore wsX0_needBefore) := goodIn_app (goodIn_of _ (by decide +kernel)) ggX3_need_X0_needBefore
theorem dX3_need_0 : decode cX3_need 0 = .ok (.iload_n 1, 1) := by decide +kernel
theorem dX3_need_1 : decode cX3_need 1 = .ok (.invokestatic 111, 3) := by decide +kernel
theorem dX3_need_4 : decode cX3_need 4 = .ok (.ifCond .ne 13, 3) := by decide +kernel
theorem dX3_need_7 : decode cX3_need 7 = .ok (.new 60, 3) := by decide +kernel
theorem dX3_need_10 : decode cX3_need 10 = .ok (.dup, 1) := by decide +kernel
theorem dX3_need_11 : decode cX3_need 11 = .ok (.ldc 114, 2) := by decide +kernel
theorem dX3_need_13 : decode cX3_need 13 = .ok (.invokespecial 64, 3) := by decide +kernel
theorem dX3_need_16 : decode cX3_need 16 = .ok (.athrow, 1) := by decide +kernel
theorem dX3_need_17 : decode cX3_need 17 = .ok (.iload_n 2, 1) := by decide +kernel
theorem dX3_need_18 : decode cX3_need 18 = .ok (.ifCond .eq 10, 3) := by decide +kernel
theorem dX3_need_21 : decode cX3_need 21 = .ok (.iload_n 1, 1) := by decide +kernel
theorem dX3_need_22 : decode cX3_need 22 = .ok (.invokestatic 120, 3) := by decide +kernel
theorem dX3_need_25 : decode cX3_need 25 = .ok (.goto 7, 3) := by decide +kernel
theorem dX3_need_28 : decode cX3_need 28 = .ok (.iload_n 1, 1) := by decide +kernel
theorem dX3_need_29 : decode cX3_need 29 = .ok (.invokestatic 123, 3) := by decide +kernel
theorem dX3_need_32 : decode cX3_need 32 = .ok (.ireturn, 1) := by decide +kernel
set_option maxRecDepth 20000 in
theorem ggX3_isWhole_X3_isFrame : GoodIn wsX3_isWhole wsX3_isFrame := goodIn_r _ [7] (by decide +kernel) (by decide +kernel)
set_option maxRecDepth 20000 in
theorem gX3_isWhole_X3_isFrame : GoodIn wsX3_isWhole (va_wsS RX3 111 yX3_isFrame wsX3_isFrame) := goodIn_app (goodIn_of _ (by decide +kernel)) ggX3_isWhole_X3_isFrame
set_option maxRecDepth 20000 in
theorem ggX3_isWhole_X2_holdsFrame : GoodIn wsX3_isWhole wsX2_holdsFrame := goodIn_r _ [12, 13, 18, 19, 20, 21, 22] (by decide +kernel) (by decide +kernel)
set_option maxRecDepth 20000 in
theorem gX3_isWhole_X2_holdsFrame : GoodIn wsX3_isWhole (wsV RX3 126 RX2 yX2_holdsFrame wsX2_holdsFrame) := goodIn_app (goodIn_of _ (by decide +kernel)) ggX3_isWhole_X2_holdsFrame
theorem dX3_isWhole_0 : decode cX3_isWhole 0 = .ok (.iload_n 1, 1) := by decide +kernel
theorem dX3_isWhole_1 : decode cX3_isWhole 1 = .ok (.invokestatic 111, 3) := by decide +kernel
theorem dX3_isWhole_4 : decode cX3_isWhole 4 = .ok (.ifCond .ne 13, 3) := by decide +kernel
theorem dX3_isWhole_7 : decode cX3_isWhole 7 = .ok (.new 60, 3) := by decide +kernel
theorem dX3_isWhole_10 : decode cX3_isWhole 10 = .ok (.dup, 1) := by decide +kernel
theorem dX3_isWhole_11 : decode cX3_isWhole 11 = .ok (.ldc 114, 2) := by decide +kernel
theorem dX3_isWhole_13 : decode cX3_isWhole 13 = .ok (.invokespecial 64, 3) := by decide +kernel
theorem dX3_isWhole_16 : decode cX3_isWhole 16 = .ok (.athrow, 1) := by decide +kernel
theorem dX3_isWhole_17 : decode cX3_isWhole 17 = .ok (.aload_n 0, 1) := by decide +kernel
theorem dX3_isWhole_18 : decode cX3_isWhole 18 = .ok (.getfield 19, 3) := by decide +kernel
theorem dX3_isWhole_21 : decode cX3_isWhole 21 = .ok (.iload_n 1, 1) := by decide +kernel
theorem dX3_isWhole_22 : decode cX3_isWhole 22 = .ok (.invokevirtual 126, 3) := by decide +kernel
theorem dX3_isWhole_25 : decode cX3_isWhole 25 = .ok (.ireturn, 1) := by decide +kernel
set_option maxRecDepth 20000 in
theorem ggX3_fate_X3_isFrame : GoodIn wsX3_fate wsX3_isFrame := goodIn_r _ [7] (by decide +kernel) (by decide +kernel)
set_option maxRecDepth 20000 in
theorem gX3_fate_X3_isFrame : GoodIn wsX3_fate (va_wsS RX3 111 yX3_isFrame wsX3_isFrame) := goodIn_app (goodIn_of _ (by decide +kernel)) ggX3_fate_X3_isFrame
theorem dX3_fate_0 : decode cX3_fate 0 = .ok (.iload_n 1, 1) := by decide +kernel
theorem dX3_fate_1 : decode cX3_fate 1 = .ok (.invokestatic 111, 3) := by decide +kernel
theorem dX3_fate_4 : decode cX3_fate 4 = .ok (.ifCond .ne 13, 3) := by decide +kernel
theorem dX3_fate_7 : decode cX3_fate 7 = .ok (.new 60, 3) := by decide +kernel
theorem dX3_fate_10 : decode cX3_fate 10 = .ok (.dup, 1) := by decide +kernel
theorem dX3_fate_11 : decode cX3_fate 11 = .ok (.ldc 114, 2) := by decide +kernel
theorem dX3_fate_13 : decode cX3_fate 13 = .ok (.invokespecial 64, 3) := by decide +kernel
theorem dX3_fate_16 : decode cX3_fate 16 = .ok (.athrow, 1) := by decide +kernel
theorem dX3_fate_17 : decode cX3_fate 17 = .ok (.aload_n 0, 1) := by decide +kernel
theorem dX3_fate_18 : decode cX3_fate 18 = .ok (.getfield 28, 3) := by decide +kernel
theorem dX3_fate_21 : decode cX3_fate 21 = .ok (.getfield 129, 3) := by decide +kernel
theorem dX3_fate_24 : decode cX3_fate 24 = .ok (.iload_n 1, 1) := by decide +kernel
theorem dX3_fate_25 : decode cX3_fate 25 = .ok (.iaload, 1) := by decide +kernel
theorem dX3_fate_26 : decode cX3_fate 26 = .ok (.ireturn, 1) := by decide +kernel
theorem dX3_next_0 : decode cX3_next 0 = .ok (.aload_n 0, 1) := by decide +kernel
theorem dX3_next_1 : decode cX3_next 1 = .ok (.getfield 28, 3) := by decide +kernel
theorem dX3_next_4 : decode cX3_next 4 = .ok (.getfield 132, 3) := by decide +kernel
theorem dX3_next_7 : decode cX3_next 7 = .ok (.bipush 100, 2) := by decide +kernel
theorem dX3_next_9 : decode cX3_next 9 = .ok (.if_icmp .ge 13, 3) := by decide +kernel
theorem dX3_next_12 : decode cX3_next 12 = .ok (.aload_n 0, 1) := by decide +kernel
theorem dX3_next_13 : decode cX3_next 13 = .ok (.getfield 28, 3) := by decide +kernel
theorem dX3_next_16 : decode cX3_next 16 = .ok (.getfield 132, 3) := by decide +kernel
theorem dX3_next_19 : decode cX3_next 19 = .ok (.goto 4, 3) := by decide +kernel
theorem dX3_next_22 : decode cX3_next 22 = .ok (.iconst (-1), 1) := by decide +kernel
theorem dX3_next_23 : decode cX3_next 23 = .ok (.ireturn, 1) := by decide +kernel
theorem dX3_turn_0 : decode cX3_turn 0 = .ok (.aload_n 0, 1) := by decide +kernel
theorem dX3_turn_1 : decode cX3_turn 1 = .ok (.getfield 28, 3) := by decide +kernel
theorem dX3_turn_4 : decode cX3_turn 4 = .ok (.getfield 135, 3) := by decide +kernel
theorem dX3_turn_7 : decode cX3_turn 7 = .ok (.ireturn, 1) := by decide +kernel
set_option maxRecDepth 20000 in
theorem ggX3_fill_X0_wholeAhead : GoodIn wsX3_fill wsX0_wholeAhead := goodIn_r _ [6, 7, 8, 9, 10, 11, 12, 13, 14, 19, 20, 21, 22, 23, 24, 25, 26, 27, 28, 29] (by decide +kernel) (by decide +kernel)
set_option maxRecDepth 20000 in
theorem gX3_fill_X0_wholeAhead : GoodIn wsX3_fill (wsV RX3 138 RX0 yX0_wholeAhead wsX0_wholeAhead) := goodIn_app (goodIn_of _ (by decide +kernel)) ggX3_fill_X0_wholeAhead
theorem dX3_fill_0 : decode cX3_fill 0 = .ok (.aload_n 0, 1) := by decide +kernel
theorem dX3_fill_1 : decode cX3_fill 1 = .ok (.getfield 28, 3) := by decide +kernel
theorem dX3_fill_4 : decode cX3_fill 4 = .ok (.invokevirtual 138, 3) := by decide +kernel
theorem dX3_fill_7 : decode cX3_fill 7 = .ok (.ireturn, 1) := by decide +kernel
theorem dX3_shown_0 : decode cX3_shown 0 = .ok (.aload_n 0, 1) := by decide +kernel
theorem dX3_shown_1 : decode cX3_shown 1 = .ok (.getfield 28, 3) := by decide +kernel
theorem dX3_shown_4 : decode cX3_shown 4 = .ok (.getfield 141, 3) := by decide +kernel
theorem dX3_shown_7 : decode cX3_shown 7 = .ok (.ireturn, 1) := by decide +kernel
set_option maxRecDepth 20000 in
theorem ggX3_couldBe_X0_countShowable : GoodIn wsX3_couldBe wsX0_countShowable := goodIn_r _ [6, 7, 8, 9, 10, 11, 12, 13, 14, 15, 16, 5, 17, 18, 19, 20, 21, 22, 23, 24, 25, 26, 27, 28, 29, 30, 31, 36, 37, 38, 39, 40, 41, 42, 43, 44, 45, 46] (by decide +kernel) (by decide +kernel)
set_option maxRecDepth 20000 in
theorem gX3_couldBe_X0_countShowable : GoodIn wsX3_couldBe (wsV RX3 144 RX0 yX0_countShowable wsX0_countShowable) := goodIn_app (goodIn_of _ (by decide +kernel)) ggX3_couldBe_X0_countShowable
theorem dX3_couldBe_0 : decode cX3_couldBe 0 = .ok (.aload_n 0, 1) := by decide +kernel
theorem dX3_couldBe_1 : decode cX3_couldBe 1 = .ok (.getfield 28, 3) := by decide +kernel
theorem dX3_couldBe_4 : decode cX3_couldBe 4 = .ok (.invokevirtual 144, 3) := by decide +kernel
theorem dX3_couldBe_7 : decode cX3_couldBe 7 = .ok (.ireturn, 1) := by decide +kernel
set_option maxRecDepth 20000 in
theorem ggX3_gap_X0_delay : GoodIn wsX3_gap wsX0_delay := goodIn_r _ [6, 7, 8, 9, 14, 15, 16, 17, 18, 19] (by decide +kernel) (by decide +kernel)
set_option maxRecDepth 20000 in
theorem gX3_gap_X0_delay : GoodIn wsX3_gap (wsV RX3 147 RX0 yX0_delay wsX0_delay) := goodIn_app (goodIn_of _ (by decide +kernel)) ggX3_gap_X0_delay
theorem dX3_gap_0 : decode cX3_gap 0 = .ok (.aload_n 0, 1) := by decide +kernel
theorem dX3_gap_1 : decode cX3_gap 1 = .ok (.getfield 28, 3) := by decide +kernel
theorem dX3_gap_4 : decode cX3_gap 4 = .ok (.invokevirtual 147, 3) := by decide +kernel
theorem dX3_gap_7 : decode cX3_gap 7 = .ok (.ireturn, 1) := by decide +kernel
set_option maxRecDepth 20000 in
theorem ggX3_passTick_X1_chooseMany : GoodIn wsX3_passTick wsX1_chooseMany := goodIn_r _ [9, 10, 11, 12, 13, 14, 15, 16, 17, 18, 19, 8, 20, 21, 22, 23, 126, 127, 128, 129, 130, 131, 132, 133, 134] (by decide +kernel) (by decide +kernel)
set_option maxRecDepth 20000 in
theorem gX3_passTick_X1_chooseMany : GoodIn wsX3_passTick (wsV RX3 150 RX1 yX1_chooseMany wsX1_chooseMany) := goodIn_app (goodIn_of _ (by decide +kernel)) ggX3_passTick_X1_chooseMany
set_option maxRecDepth 20000 in
theorem ggX3_passTick_X1_packetAt : GoodIn wsX3_passTick wsX1_packetAt := goodIn_r _ [27, 11, 28, 126, 127, 128, 129, 130, 131, 132, 133, 134] (by decide +kernel) (by decide +kernel)
set_option maxRecDepth 20000 in
theorem gX3_passTick_X1_packetAt : GoodIn wsX3_passTick (wsV RX3 153 RX1 yX1_packetAt wsX1_packetAt) := goodIn_app (goodIn_of _ (by decide +kernel)) ggX3_passTick_X1_packetAt
set_option maxRecDepth 20000 in
theorem ggX3_passTick_X2_add : GoodIn wsX3_passTick wsX2_add := goodIn_r _ [33, 34, 35, 36, 37, 14, 38, 39, 40, 41, 135, 136, 137, 138, 139] (by decide +kernel) (by decide +kernel)
set_option maxRecDepth 20000 in
theorem gX3_passTick_X2_add : GoodIn wsX3_passTick (wsV RX3 156 RX2 yX2_add wsX2_add) := goodIn_app (goodIn_of _ (by decide +kernel)) ggX3_passTick_X2_add
set_option maxRecDepth 20000 in
theorem ggX3_passTick_X1_removeFirst : GoodIn wsX3_passTick wsX1_removeFirst := goodIn_r _ [45, 46, 37, 14, 38, 11, 28, 22, 126, 127, 128, 129, 130, 131, 132, 133, 134] (by decide +kernel) (by decide +kernel)
set_option maxRecDepth 20000 in
theorem gX3_passTick_X1_removeFirst : GoodIn wsX3_passTick (wsV RX3 160 RX1 yX1_removeFirst wsX1_removeFirst) := goodIn_app (goodIn_of _ (by decide +kernel)) ggX3_passTick_X1_removeFirst
set_option maxRecDepth 20000 in
theorem ggX3_passTick_X2_askForMissing : GoodIn wsX3_passTick wsX2_askForMissing := goodIn_r _ [50, 51, 35, 36, 37, 14, 38, 52, 53, 54, 32, 55, 34, 39, 40, 41, 56, 57, 58, 59, 60, 61, 135, 136, 137, 138, 139] (by decide +kernel) (by decide +kernel)
set_option maxRecDepth 20000 in
theorem gX3_passTick_X2_askForMissing : GoodIn wsX3_passTick (wsV RX3 163 RX2 yX2_askForMissing wsX2_askForMissing) := goodIn_app (goodIn_of _ (by decide +kernel)) ggX3_passTick_X2_askForMissing
set_option maxRecDepth 20000 in
theorem ggX3_passTick_X0_play : GoodIn wsX3_passTick wsX0_play := goodIn_r _ [66, 67, 68, 69, 70, 71, 65, 72, 73, 74, 75, 76, 32, 77, 34, 78, 79, 80, 81, 82, 83, 84, 85, 40, 86, 87, 88, 89, 90, 91, 92, 93, 94, 95, 96, 97, 98, 99, 100, 101, 102, 103, 104, 105, 106, 107, 108, 109, 110, 111, 112, 113, 114, 115, 120, 121, 122, 123, 124, 125, 135, 136, 137, 138, 139] (by decide +kernel) (by decide +kernel)
set_option maxRecDepth 20000 in
theorem gX3_passTick_X0_play : GoodIn wsX3_passTick (wsV RX3 166 RX0 yX0_play wsX0_play) := goodIn_app (goodIn_of _ (by decide +kernel)) ggX3_passTick_X0_play
theorem dX3_passTick_0 : decode cX3_passTick 0 = .ok (.aload_n 0, 1) := by decide +kernel
theorem dX3_passTick_1 : decode cX3_passTick 1 = .ok (.getfield 12, 3) := by decide +kernel
theorem dX3_passTick_4 : decode cX3_passTick 4 = .ok (.aload_n 0, 1) := by decide +kernel
theorem dX3_passTick_5 : decode cX3_passTick 5 = .ok (.getfield 65, 3) := by decide +kernel
theorem dX3_passTick_8 : decode cX3_passTick 8 = .ok (.invokevirtual 150, 3) := by decide +kernel
theorem dX3_passTick_11 : decode cX3_passTick 11 = .ok (.istore_n 1, 1) := by decide +kernel
theorem dX3_passTick_12 : decode cX3_passTick 12 = .ok (.iconst 0, 1) := by decide +kernel
theorem dX3_passTick_13 : decode cX3_passTick 13 = .ok (.istore_n 2, 1) := by decide +kernel
theorem dX3_passTick_14 : decode cX3_passTick 14 = .ok (.iload_n 2, 1) := by decide +kernel
theorem dX3_passTick_15 : decode cX3_passTick 15 = .ok (.iload_n 1, 1) := by decide +kernel
theorem dX3_passTick_16 : decode cX3_passTick 16 = .ok (.if_icmp .ge 24, 3) := by decide +kernel
theorem dX3_passTick_19 : decode cX3_passTick 19 = .ok (.aload_n 0, 1) := by decide +kernel
theorem dX3_passTick_20 : decode cX3_passTick 20 = .ok (.getfield 19, 3) := by decide +kernel
theorem dX3_passTick_23 : decode cX3_passTick 23 = .ok (.aload_n 0, 1) := by decide +kernel
theorem dX3_passTick_24 : decode cX3_passTick 24 = .ok (.getfield 12, 3) := by decide +kernel
theorem dX3_passTick_27 : decode cX3_passTick 27 = .ok (.iload_n 2, 1) := by decide +kernel
theorem dX3_passTick_28 : decode cX3_passTick 28 = .ok (.invokevirtual 153, 3) := by decide +kernel
theorem dX3_passTick_31 : decode cX3_passTick 31 = .ok (.invokevirtual 156, 3) := by decide +kernel
theorem dX3_passTick_34 : decode cX3_passTick 34 = .ok (.iinc 2 1, 3) := by decide +kernel
theorem dX3_passTick_37 : decode cX3_passTick 37 = .ok (.goto (-23), 3) := by decide +kernel
theorem dX3_passTick_40 : decode cX3_passTick 40 = .ok (.aload_n 0, 1) := by decide +kernel
theorem dX3_passTick_41 : decode cX3_passTick 41 = .ok (.getfield 12, 3) := by decide +kernel
theorem dX3_passTick_44 : decode cX3_passTick 44 = .ok (.iload_n 1, 1) := by decide +kernel
theorem dX3_passTick_45 : decode cX3_passTick 45 = .ok (.invokevirtual 160, 3) := by decide +kernel
theorem dX3_passTick_48 : decode cX3_passTick 48 = .ok (.aload_n 0, 1) := by decide +kernel
theorem dX3_passTick_49 : decode cX3_passTick 49 = .ok (.getfield 19, 3) := by decide +kernel
theorem dX3_passTick_52 : decode cX3_passTick 52 = .ok (.aload_n 0, 1) := by decide +kernel
theorem dX3_passTick_53 : decode cX3_passTick 53 = .ok (.getfield 28, 3) := by decide +kernel
theorem dX3_passTick_56 : decode cX3_passTick 56 = .ok (.getfield 132, 3) := by decide +kernel
theorem dX3_passTick_59 : decode cX3_passTick 59 = .ok (.invokevirtual 163, 3) := by decide +kernel
theorem dX3_passTick_62 : decode cX3_passTick 62 = .ok (.aload_n 0, 1) := by decide +kernel
theorem dX3_passTick_63 : decode cX3_passTick 63 = .ok (.getfield 28, 3) := by decide +kernel
theorem dX3_passTick_66 : decode cX3_passTick 66 = .ok (.aload_n 0, 1) := by decide +kernel
theorem dX3_passTick_67 : decode cX3_passTick 67 = .ok (.getfield 65, 3) := by decide +kernel
theorem dX3_passTick_70 : decode cX3_passTick 70 = .ok (.invokevirtual 166, 3) := by decide +kernel
theorem dX3_passTick_73 : decode cX3_passTick 73 = .ok (.aload_n 0, 1) := by decide +kernel
theorem dX3_passTick_74 : decode cX3_passTick 74 = .ok (.dup, 1) := by decide +kernel
theorem dX3_passTick_75 : decode cX3_passTick 75 = .ok (.getfield 65, 3) := by decide +kernel
theorem dX3_passTick_78 : decode cX3_passTick 78 = .ok (.iconst 1, 1) := by decide +kernel
theorem dX3_passTick_79 : decode cX3_passTick 79 = .ok (.iadd, 1) := by decide +kernel
theorem dX3_passTick_80 : decode cX3_passTick 80 = .ok (.putfield 65, 3) := by decide +kernel
theorem dX3_passTick_83 : decode cX3_passTick 83 = .ok (.return_, 1) := by decide +kernel
theorem dX3_isFromOneTo_0 : decode cX3_isFromOneTo 0 = .ok (.iload_n 0, 1) := by decide +kernel
theorem dX3_isFromOneTo_1 : decode cX3_isFromOneTo 1 = .ok (.iconst 1, 1) := by decide +kernel
theorem dX3_isFromOneTo_2 : decode cX3_isFromOneTo 2 = .ok (.if_icmp .lt 12, 3) := by decide +kernel
theorem dX3_isFromOneTo_5 : decode cX3_isFromOneTo 5 = .ok (.iload_n 0, 1) := by decide +kernel
theorem dX3_isFromOneTo_6 : decode cX3_isFromOneTo 6 = .ok (.iload_n 1, 1) := by decide +kernel
theorem dX3_isFromOneTo_7 : decode cX3_isFromOneTo 7 = .ok (.if_icmp .gt 7, 3) := by decide +kernel
theorem dX3_isFromOneTo_10 : decode cX3_isFromOneTo 10 = .ok (.iconst 1, 1) := by decide +kernel
theorem dX3_isFromOneTo_11 : decode cX3_isFromOneTo 11 = .ok (.goto 4, 3) := by decide +kernel
theorem dX3_isFromOneTo_14 : decode cX3_isFromOneTo 14 = .ok (.iconst 0, 1) := by decide +kernel
theorem dX3_isFromOneTo_15 : decode cX3_isFromOneTo 15 = .ok (.ireturn, 1) := by decide +kernel
theorem dX3_isPacket_0 : decode cX3_isPacket 0 = .ok (.iload_n 0, 1) := by decide +kernel
theorem dX3_isPacket_1 : decode cX3_isPacket 1 = .ok (.ifCond .lt 14, 3) := by decide +kernel
theorem dX3_isPacket_4 : decode cX3_isPacket 4 = .ok (.iload_n 0, 1) := by decide +kernel
theorem dX3_isPacket_5 : decode cX3_isPacket 5 = .ok (.sipush 300, 3) := by decide +kernel
theorem dX3_isPacket_8 : decode cX3_isPacket 8 = .ok (.if_icmp .ge 7, 3) := by decide +kernel
theorem dX3_isPacket_11 : decode cX3_isPacket 11 = .ok (.iconst 1, 1) := by decide +kernel
theorem dX3_isPacket_12 : decode cX3_isPacket 12 = .ok (.goto 4, 3) := by decide +kernel
theorem dX3_isPacket_15 : decode cX3_isPacket 15 = .ok (.iconst 0, 1) := by decide +kernel
theorem dX3_isPacket_16 : decode cX3_isPacket 16 = .ok (.ireturn, 1) := by decide +kernel
theorem dX3_isFrame_0 : decode cX3_isFrame 0 = .ok (.iload_n 0, 1) := by decide +kernel
theorem dX3_isFrame_1 : decode cX3_isFrame 1 = .ok (.ifCond .lt 13, 3) := by decide +kernel
theorem dX3_isFrame_4 : decode cX3_isFrame 4 = .ok (.iload_n 0, 1) := by decide +kernel
theorem dX3_isFrame_5 : decode cX3_isFrame 5 = .ok (.bipush 100, 2) := by decide +kernel
theorem dX3_isFrame_7 : decode cX3_isFrame 7 = .ok (.if_icmp .ge 7, 3) := by decide +kernel
theorem dX3_isFrame_10 : decode cX3_isFrame 10 = .ok (.iconst 1, 1) := by decide +kernel
theorem dX3_isFrame_11 : decode cX3_isFrame 11 = .ok (.goto 4, 3) := by decide +kernel
theorem dX3_isFrame_14 : decode cX3_isFrame 14 = .ok (.iconst 0, 1) := by decide +kernel
theorem dX3_isFrame_15 : decode cX3_isFrame 15 = .ok (.ireturn, 1) := by decide +kernel
theorem dX4_init_0 : decode cX4_init 0 = .ok (.aload_n 0, 1) := by decide +kernel
theorem dX4_init_1 : decode cX4_init 1 = .ok (.invokespecial 1, 3) := by decide +kernel
theorem dX4_init_4 : decode cX4_init 4 = .ok (.aload_n 0, 1) := by decide +kernel
theorem dX4_init_5 : decode cX4_init 5 = .ok (.bipush 16, 2) := by decide +kernel
theorem dX4_init_7 : decode cX4_init 7 = .ok (.putfield 7, 3) := by decide +kernel
theorem dX4_init_10 : decode cX4_init 10 = .ok (.aload_n 0, 1) := by decide +kernel
theorem dX4_init_11 : decode cX4_init 11 = .ok (.iconst 4, 1) := by decide +kernel
theorem dX4_init_12 : decode cX4_init 12 = .ok (.putfield 13, 3) := by decide +kernel
theorem dX4_init_15 : decode cX4_init 15 = .ok (.aload_n 0, 1) := by decide +kernel
theorem dX4_init_16 : decode cX4_init 16 = .ok (.iconst 3, 1) := by decide +kernel
theorem dX4_init_17 : decode cX4_init 17 = .ok (.putfield 16, 3) := by decide +kernel
theorem dX4_init_20 : decode cX4_init 20 = .ok (.aload_n 0, 1) := by decide +kernel
theorem dX4_init_21 : decode cX4_init 21 = .ok (.bipush 8, 2) := by decide +kernel
theorem dX4_init_23 : decode cX4_init 23 = .ok (.putfield 19, 3) := by decide +kernel
theorem dX4_init_26 : decode cX4_init 26 = .ok (.aload_n 0, 1) := by decide +kernel
theorem dX4_init_27 : decode cX4_init 27 = .ok (.bipush 32, 2) := by decide +kernel
theorem dX4_init_29 : decode cX4_init 29 = .ok (.newarray .int, 2) := by decide +kernel
theorem dX4_init_31 : decode cX4_init 31 = .ok (.putfield 22, 3) := by decide +kernel
theorem dX4_init_34 : decode cX4_init 34 = .ok (.aload_n 0, 1) := by decide +kernel
theorem dX4_init_35 : decode cX4_init 35 = .ok (.bipush 32, 2) := by decide +kernel
theorem dX4_init_37 : decode cX4_init 37 = .ok (.newarray .int, 2) := by decide +kernel
theorem dX4_init_39 : decode cX4_init 39 = .ok (.putfield 26, 3) := by decide +kernel
theorem dX4_init_42 : decode cX4_init 42 = .ok (.aload_n 0, 1) := by decide +kernel
theorem dX4_init_43 : decode cX4_init 43 = .ok (.sipush 300, 3) := by decide +kernel
theorem dX4_init_46 : decode cX4_init 46 = .ok (.newarray .boolean, 2) := by decide +kernel
theorem dX4_init_48 : decode cX4_init 48 = .ok (.putfield 29, 3) := by decide +kernel
theorem dX4_init_51 : decode cX4_init 51 = .ok (.aload_n 0, 1) := by decide +kernel
theorem dX4_init_52 : decode cX4_init 52 = .ok (.sipush 300, 3) := by decide +kernel
theorem dX4_init_55 : decode cX4_init 55 = .ok (.newarray .boolean, 2) := by decide +kernel
theorem dX4_init_57 : decode cX4_init 57 = .ok (.putfield 33, 3) := by decide +kernel
theorem dX4_init_60 : decode cX4_init 60 = .ok (.aload_n 0, 1) := by decide +kernel
theorem dX4_init_61 : decode cX4_init 61 = .ok (.sipush 300, 3) := by decide +kernel
theorem dX4_init_64 : decode cX4_init 64 = .ok (.newarray .int, 2) := by decide +kernel
theorem dX4_init_66 : decode cX4_init 66 = .ok (.putfield 36, 3) := by decide +kernel
theorem dX4_init_69 : decode cX4_init 69 = .ok (.aload_n 0, 1) := by decide +kernel
theorem dX4_init_70 : decode cX4_init 70 = .ok (.bipush 100, 2) := by decide +kernel
theorem dX4_init_72 : decode cX4_init 72 = .ok (.newarray .int, 2) := by decide +kernel
theorem dX4_init_74 : decode cX4_init 74 = .ok (.putfield 39, 3) := by decide +kernel
theorem dX4_init_77 : decode cX4_init 77 = .ok (.aload_n 0, 1) := by decide +kernel
theorem dX4_init_78 : decode cX4_init 78 = .ok (.bipush 100, 2) := by decide +kernel
theorem dX4_init_80 : decode cX4_init 80 = .ok (.newarray .boolean, 2) := by decide +kernel
theorem dX4_init_82 : decode cX4_init 82 = .ok (.putfield 42, 3) := by decide +kernel
theorem dX4_init_85 : decode cX4_init 85 = .ok (.return_, 1) := by decide +kernel
theorem dX4_thrown_0 : decode cX4_thrown 0 = .ok (.aload_n 0, 1) := by decide +kernel
theorem dX4_thrown_1 : decode cX4_thrown 1 = .ok (.getfield 45, 3) := by decide +kernel
theorem dX4_thrown_4 : decode cX4_thrown 4 = .ok (.ireturn, 1) := by decide +kernel
theorem dX4_fails_0 : decode cX4_fails 0 = .ok (.aload_n 0, 1) := by decide +kernel
theorem dX4_fails_1 : decode cX4_fails 1 = .ok (.iload_n 1, 1) := by decide +kernel
theorem dX4_fails_2 : decode cX4_fails 2 = .ok (.putfield 45, 3) := by decide +kernel
theorem dX4_fails_5 : decode cX4_fails 5 = .ok (.iconst 0, 1) := by decide +kernel
theorem dX4_fails_6 : decode cX4_fails 6 = .ok (.ireturn, 1) := by decide +kernel
theorem dX4_asks_0 : decode cX4_asks 0 = .ok (.aload_n 0, 1) := by decide +kernel
theorem dX4_asks_1 : decode cX4_asks 1 = .ok (.iload_n 1, 1) := by decide +kernel
theorem dX4_asks_2 : decode cX4_asks 2 = .ok (.ifCond .eq 7, 3) := by decide +kernel
theorem dX4_asks_5 : decode cX4_asks 5 = .ok (.iconst 0, 1) := by decide +kernel
theorem dX4_asks_6 : decode cX4_asks 6 = .ok (.goto 4, 3) := by decide +kernel
theorem dX4_asks_9 : decode cX4_asks 9 = .ok (.iconst 1, 1) := by decide +kernel
theorem dX4_asks_10 : decode cX4_asks 10 = .ok (.putfield 45, 3) := by decide +kernel
theorem dX4_asks_13 : decode cX4_asks 13 = .ok (.iload_n 1, 1) := by decide +kernel
theorem dX4_asks_14 : decode cX4_asks 14 = .ok (.ireturn, 1) := by decide +kernel
theorem dX4_in_0 : decode cX4_in 0 = .ok (.iload_n 0, 1) := by decide +kernel
theorem dX4_in_1 : decode cX4_in 1 = .ok (.iload_n 1, 1) := by decide +kernel
theorem dX4_in_2 : decode cX4_in 2 = .ok (.if_icmp .lt 12, 3) := by decide +kernel
theorem dX4_in_5 : decode cX4_in 5 = .ok (.iload_n 0, 1) := by decide +kernel
theorem dX4_in_6 : decode cX4_in 6 = .ok (.iload_n 2, 1) := by decide +kernel
theorem dX4_in_7 : decode cX4_in 7 = .ok (.if_icmp .gt 7, 3) := by decide +kernel
theorem dX4_in_10 : decode cX4_in 10 = .ok (.iconst 1, 1) := by decide +kernel
theorem dX4_in_11 : decode cX4_in 11 = .ok (.goto 4, 3) := by decide +kernel
theorem dX4_in_14 : decode cX4_in 14 = .ok (.iconst 0, 1) := by decide +kernel
theorem dX4_in_15 : decode cX4_in 15 = .ok (.ireturn, 1) := by decide +kernel
set_option maxRecDepth 20000 in
theorem ggX4_set_X4_in : GoodIn wsX4_set wsX4_in := goodIn_r _ [8] (by decide +kernel) (by decide +kernel)
set_option maxRecDepth 20000 in
theorem gX4_set_X4_in : GoodIn wsX4_set (va_wsS RX4 48 yX4_in wsX4_in) := goodIn_app (goodIn_of _ (by decide +kernel)) ggX4_set_X4_in
set_option maxRecDepth 20000 in
theorem ggX4_set_X4_asks : GoodIn wsX4_set wsX4_asks := goodIn_r _ [12, 13, 14, 15, 16, 17, 18, 19, 20, 21, 22, 23, 24, 25, 26, 27, 28, 29, 30, 31, 32, 33, 34, 35] (by decide +kernel) (by decide +kernel)
set_option maxRecDepth 20000 in
theorem gX4_set_X4_asks : GoodIn wsX4_set (wsV RX4 52 RX4 yX4_asks wsX4_asks) := goodIn_app (goodIn_of _ (by decide +kernel)) ggX4_set_X4_asks
theorem dX4_set_0 : decode cX4_set 0 = .ok (.aload_n 0, 1) := by decide +kernel
theorem dX4_set_1 : decode cX4_set 1 = .ok (.iload_n 1, 1) := by decide +kernel
theorem dX4_set_2 : decode cX4_set 2 = .ok (.iconst 1, 1) := by decide +kernel
theorem dX4_set_3 : decode cX4_set 3 = .ok (.bipush 32, 2) := by decide +kernel
theorem dX4_set_5 : decode cX4_set 5 = .ok (.invokestatic 48, 3) := by decide +kernel
theorem dX4_set_8 : decode cX4_set 8 = .ok (.ifCond .eq 38, 3) := by decide +kernel
theorem dX4_set_11 : decode cX4_set 11 = .ok (.iload_n 2, 1) := by decide +kernel
theorem dX4_set_12 : decode cX4_set 12 = .ok (.iconst 1, 1) := by decide +kernel
theorem dX4_set_13 : decode cX4_set 13 = .ok (.bipush 32, 2) := by decide +kernel
theorem dX4_set_15 : decode cX4_set 15 = .ok (.invokestatic 48, 3) := by decide +kernel
theorem dX4_set_18 : decode cX4_set 18 = .ok (.ifCond .eq 28, 3) := by decide +kernel
theorem dX4_set_21 : decode cX4_set 21 = .ok (.iload_n 3, 1) := by decide +kernel
theorem dX4_set_22 : decode cX4_set 22 = .ok (.iconst 1, 1) := by decide +kernel
theorem dX4_set_23 : decode cX4_set 23 = .ok (.bipush 50, 2) := by decide +kernel
theorem dX4_set_25 : decode cX4_set 25 = .ok (.invokestatic 48, 3) := by decide +kernel
theorem dX4_set_28 : decode cX4_set 28 = .ok (.ifCond .eq 18, 3) := by decide +kernel
theorem dX4_set_31 : decode cX4_set 31 = .ok (.iload 4, 2) := by decide +kernel
theorem dX4_set_33 : decode cX4_set 33 = .ok (.iconst 1, 1) := by decide +kernel
theorem dX4_set_34 : decode cX4_set 34 = .ok (.bipush 32, 2) := by decide +kernel
theorem dX4_set_36 : decode cX4_set 36 = .ok (.invokestatic 48, 3) := by decide +kernel
theorem dX4_set_39 : decode cX4_set 39 = .ok (.ifCond .eq 7, 3) := by decide +kernel
theorem dX4_set_42 : decode cX4_set 42 = .ok (.iconst 1, 1) := by decide +kernel
theorem dX4_set_43 : decode cX4_set 43 = .ok (.goto 4, 3) := by decide +kernel
theorem dX4_set_46 : decode cX4_set 46 = .ok (.iconst 0, 1) := by decide +kernel
theorem dX4_set_47 : decode cX4_set 47 = .ok (.invokevirtual 52, 3) := by decide +kernel
theorem dX4_set_50 : decode cX4_set 50 = .ok (.ifCond .eq 24, 3) := by decide +kernel
theorem dX4_set_53 : decode cX4_set 53 = .ok (.aload_n 0, 1) := by decide +kernel
theorem dX4_set_54 : decode cX4_set 54 = .ok (.iload_n 1, 1) := by decide +kernel
theorem dX4_set_55 : decode cX4_set 55 = .ok (.putfield 7, 3) := by decide +kernel
theorem dX4_set_58 : decode cX4_set 58 = .ok (.aload_n 0, 1) := by decide +kernel
theorem dX4_set_59 : decode cX4_set 59 = .ok (.iload_n 2, 1) := by decide +kernel
theorem dX4_set_60 : decode cX4_set 60 = .ok (.putfield 13, 3) := by decide +kernel
theorem dX4_set_63 : decode cX4_set 63 = .ok (.aload_n 0, 1) := by decide +kernel
theorem dX4_set_64 : decode cX4_set 64 = .ok (.iload_n 3, 1) := by decide +kernel
theorem dX4_set_65 : decode cX4_set 65 = .ok (.putfield 16, 3) := by decide +kernel
theorem dX4_set_68 : decode cX4_set 68 = .ok (.aload_n 0, 1) := by decide +kernel
theorem dX4_set_69 : decode cX4_set 69 = .ok (.iload 4, 2) := by decide +kernel
theorem dX4_set_71 : decode cX4_set 71 = .ok (.putfield 19, 3) := by decide +kernel
theorem dX4_set_74 : decode cX4_set 74 = .ok (.return_, 1) := by decide +kernel
theorem dX4_comes_0 : decode cX4_comes 0 = .ok (.aload_n 0, 1) := by decide +kernel
theorem dX4_comes_1 : decode cX4_comes 1 = .ok (.getfield 56, 3) := by decide +kernel
theorem dX4_comes_4 : decode cX4_comes 4 = .ok (.aload_n 0, 1) := by decide +kernel
theorem dX4_comes_5 : decode cX4_comes 5 = .ok (.getfield 7, 3) := by decide +kernel
theorem dX4_comes_8 : decode cX4_comes 8 = .ok (.if_icmp .lt 15, 3) := by decide +kernel
theorem dX4_comes_11 : decode cX4_comes 11 = .ok (.aload_n 0, 1) := by decide +kernel
theorem dX4_comes_12 : decode cX4_comes 12 = .ok (.dup, 1) := by decide +kernel
theorem dX4_comes_13 : decode cX4_comes 13 = .ok (.getfield 59, 3) := by decide +kernel
theorem dX4_comes_16 : decode cX4_comes 16 = .ok (.iconst 1, 1) := by decide +kernel
theorem dX4_comes_17 : decode cX4_comes 17 = .ok (.iadd, 1) := by decide +kernel
theorem dX4_comes_18 : decode cX4_comes 18 = .ok (.putfield 59, 3) := by decide +kernel
theorem dX4_comes_21 : decode cX4_comes 21 = .ok (.iconst 0, 1) := by decide +kernel
theorem dX4_comes_22 : decode cX4_comes 22 = .ok (.ireturn, 1) := by decide +kernel
theorem dX4_comes_23 : decode cX4_comes 23 = .ok (.aload_n 0, 1) := by decide +kernel
theorem dX4_comes_24 : decode cX4_comes 24 = .ok (.getfield 62, 3) := by decide +kernel
theorem dX4_comes_27 : decode cX4_comes 27 = .ok (.aload_n 0, 1) := by decide +kernel
theorem dX4_comes_28 : decode cX4_comes 28 = .ok (.getfield 56, 3) := by decide +kernel
theorem dX4_comes_31 : decode cX4_comes 31 = .ok (.iadd, 1) := by decide +kernel
theorem dX4_comes_32 : decode cX4_comes 32 = .ok (.bipush 32, 2) := by decide +kernel
theorem dX4_comes_34 : decode cX4_comes 34 = .ok (.irem, 1) := by decide +kernel
theorem dX4_comes_35 : decode cX4_comes 35 = .ok (.istore_n 2, 1) := by decide +kernel
theorem dX4_comes_36 : decode cX4_comes 36 = .ok (.aload_n 0, 1) := by decide +kernel
theorem dX4_comes_37 : decode cX4_comes 37 = .ok (.getfield 22, 3) := by decide +kernel
theorem dX4_comes_40 : decode cX4_comes 40 = .ok (.iload_n 2, 1) := by decide +kernel
theorem dX4_comes_41 : decode cX4_comes 41 = .ok (.iload_n 1, 1) := by decide +kernel
theorem dX4_comes_42 : decode cX4_comes 42 = .ok (.iastore, 1) := by decide +kernel
theorem dX4_comes_43 : decode cX4_comes 43 = .ok (.aload_n 0, 1) := by decide +kernel
theorem dX4_comes_44 : decode cX4_comes 44 = .ok (.getfield 26, 3) := by decide +kernel
theorem dX4_comes_47 : decode cX4_comes 47 = .ok (.iload_n 2, 1) := by decide +kernel
theorem dX4_comes_48 : decode cX4_comes 48 = .ok (.aload_n 0, 1) := by decide +kernel
theorem dX4_comes_49 : decode cX4_comes 49 = .ok (.getfield 65, 3) := by decide +kernel
theorem dX4_comes_52 : decode cX4_comes 52 = .ok (.iastore, 1) := by decide +kernel
theorem dX4_comes_53 : decode cX4_comes 53 = .ok (.aload_n 0, 1) := by decide +kernel
theorem dX4_comes_54 : decode cX4_comes 54 = .ok (.dup, 1) := by decide +kernel
theorem dX4_comes_55 : decode cX4_comes 55 = .ok (.getfield 56, 3) := by decide +kernel
theorem dX4_comes_58 : decode cX4_comes 58 = .ok (.iconst 1, 1) := by decide +kernel
theorem dX4_comes_59 : decode cX4_comes 59 = .ok (.iadd, 1) := by decide +kernel
theorem dX4_comes_60 : decode cX4_comes 60 = .ok (.putfield 56, 3) := by decide +kernel
theorem dX4_comes_63 : decode cX4_comes 63 = .ok (.iconst 1, 1) := by decide +kernel
theorem dX4_comes_64 : decode cX4_comes 64 = .ok (.ireturn, 1) := by decide +kernel
set_option maxRecDepth 20000 in
theorem ggX4_arrive_X4_in : GoodIn wsX4_arrive wsX4_in := goodIn_r _ [5] (by decide +kernel) (by decide +kernel)
set_option maxRecDepth 20000 in
theorem gX4_arrive_X4_in : GoodIn wsX4_arrive (va_wsS RX4 48 yX4_in wsX4_in) := goodIn_app (goodIn_of _ (by decide +kernel)) ggX4_arrive_X4_in
set_option maxRecDepth 20000 in
theorem ggX4_arrive_X4_asks : GoodIn wsX4_arrive wsX4_asks := goodIn_r _ [9, 10, 21, 22, 23, 24, 25, 26, 27, 28, 29, 30, 31, 32, 33, 34, 35, 36, 37, 38, 39, 40, 41, 42] (by decide +kernel) (by decide +kernel)
set_option maxRecDepth 20000 in
theorem gX4_arrive_X4_asks : GoodIn wsX4_arrive (wsV RX4 52 RX4 yX4_asks wsX4_asks) := goodIn_app (goodIn_of _ (by decide +kernel)) ggX4_arrive_X4_asks
set_option maxRecDepth 20000 in
theorem ggX4_arrive_X4_comes : GoodIn wsX4_arrive wsX4_comes := goodIn_r _ [14, 1, 15, 16, 17, 18, 19, 20, 21, 22, 23, 24, 25, 26, 27, 28, 29, 30, 31, 32, 33, 34, 35, 36, 37, 38, 39, 40, 41, 42] (by decide +kernel) (by decide +kernel)
set_option maxRecDepth 20000 in
theorem gX4_arrive_X4_comes : GoodIn wsX4_arrive (wsV RX4 68 RX4 yX4_comes wsX4_comes) := goodIn_app (goodIn_of _ (by decide +kernel)) ggX4_arrive_X4_comes
theorem dX4_arrive_0 : decode cX4_arrive 0 = .ok (.aload_n 0, 1) := by decide +kernel
theorem dX4_arrive_1 : decode cX4_arrive 1 = .ok (.iload_n 1, 1) := by decide +kernel
theorem dX4_arrive_2 : decode cX4_arrive 2 = .ok (.iconst 0, 1) := by decide +kernel
theorem dX4_arrive_3 : decode cX4_arrive 3 = .ok (.sipush 299, 3) := by decide +kernel
theorem dX4_arrive_6 : decode cX4_arrive 6 = .ok (.invokestatic 48, 3) := by decide +kernel
theorem dX4_arrive_9 : decode cX4_arrive 9 = .ok (.invokevirtual 52, 3) := by decide +kernel
theorem dX4_arrive_12 : decode cX4_arrive 12 = .ok (.ifCond .ne 5, 3) := by decide +kernel
theorem dX4_arrive_15 : decode cX4_arrive 15 = .ok (.iconst 0, 1) := by decide +kernel
theorem dX4_arrive_16 : decode cX4_arrive 16 = .ok (.ireturn, 1) := by decide +kernel
theorem dX4_arrive_17 : decode cX4_arrive 17 = .ok (.aload_n 0, 1) := by decide +kernel
theorem dX4_arrive_18 : decode cX4_arrive 18 = .ok (.iload_n 1, 1) := by decide +kernel
theorem dX4_arrive_19 : decode cX4_arrive 19 = .ok (.invokevirtual 68, 3) := by decide +kernel
theorem dX4_arrive_22 : decode cX4_arrive 22 = .ok (.ifCond .eq 10, 3) := by decide +kernel
theorem dX4_arrive_25 : decode cX4_arrive 25 = .ok (.aload_n 0, 1) := by decide +kernel
theorem dX4_arrive_26 : decode cX4_arrive 26 = .ok (.getfield 56, 3) := by decide +kernel
theorem dX4_arrive_29 : decode cX4_arrive 29 = .ok (.goto 4, 3) := by decide +kernel
theorem dX4_arrive_32 : decode cX4_arrive 32 = .ok (.iconst (-1), 1) := by decide +kernel
theorem dX4_arrive_33 : decode cX4_arrive 33 = .ok (.ireturn, 1) := by decide +kernel
set_option maxRecDepth 20000 in
theorem ggX4_arriveRow_X4_in : GoodIn wsX4_arriveRow wsX4_in := goodIn_r _ [4] (by decide +kernel) (by decide +kernel)
set_option maxRecDepth 20000 in
theorem gX4_arriveRow_X4_in : GoodIn wsX4_arriveRow (va_wsS RX4 48 yX4_in wsX4_in) := goodIn_app (goodIn_of _ (by decide +kernel)) ggX4_arriveRow_X4_in
set_option maxRecDepth 20000 in
theorem ggX4_arriveRow_X4_asks : GoodIn wsX4_arriveRow wsX4_asks := goodIn_r _ [8, 9, 25, 26, 27, 28, 29, 30, 31, 32, 33, 34, 35, 36, 37, 38, 39, 40, 41, 42, 43, 44, 45, 46] (by decide +kernel) (by decide +kernel)
set_option maxRecDepth 20000 in
theorem gX4_arriveRow_X4_asks : GoodIn wsX4_arriveRow (wsV RX4 52 RX4 yX4_asks wsX4_asks) := goodIn_app (goodIn_of _ (by decide +kernel)) ggX4_arriveRow_X4_asks
set_option maxRecDepth 20000 in
theorem ggX4_arriveRow_X4_fails : GoodIn wsX4_arriveRow wsX4_fails := goodIn_r _ [13, 9, 25, 26, 27, 28, 29, 30, 31, 32, 33, 34, 35, 36, 37, 38, 39, 40, 41, 42, 43, 44, 45, 46] (by decide +kernel) (by decide +kernel)
set_option maxRecDepth 20000 in
theorem gX4_arriveRow_X4_fails : GoodIn wsX4_arriveRow (wsV RX4 72 RX4 yX4_fails wsX4_fails) := goodIn_app (goodIn_of _ (by decide +kernel)) ggX4_arriveRow_X4_fails
set_option maxRecDepth 20000 in
theorem ggX4_arriveRow_X4_comes : GoodIn wsX4_arriveRow wsX4_comes := goodIn_r _ [17, 18, 19, 20, 21, 22, 23, 24, 25, 26, 27, 28, 29, 30, 31, 32, 33, 34, 35, 36, 37, 38, 39, 40, 41, 42, 43, 44, 45, 46] (by decide +kernel) (by decide +kernel)
set_option maxRecDepth 20000 in
theorem gX4_arriveRow_X4_comes : GoodIn wsX4_arriveRow (wsV RX4 68 RX4 yX4_comes wsX4_comes) := goodIn_app (goodIn_of _ (by decide +kernel)) ggX4_arriveRow_X4_comes
theorem dX4_arriveRow_0 : decode cX4_arriveRow 0 = .ok (.aload_n 0, 1) := by decide +kernel
theorem dX4_arriveRow_1 : decode cX4_arriveRow 1 = .ok (.iload_n 1, 1) := by decide +kernel
theorem dX4_arriveRow_2 : decode cX4_arriveRow 2 = .ok (.iconst 0, 1) := by decide +kernel
theorem dX4_arriveRow_3 : decode cX4_arriveRow 3 = .ok (.sipush 299, 3) := by decide +kernel
theorem dX4_arriveRow_6 : decode cX4_arriveRow 6 = .ok (.invokestatic 48, 3) := by decide +kernel
theorem dX4_arriveRow_9 : decode cX4_arriveRow 9 = .ok (.ifCond .eq 16, 3) := by decide +kernel
theorem dX4_arriveRow_12 : decode cX4_arriveRow 12 = .ok (.iload_n 2, 1) := by decide +kernel
theorem dX4_arriveRow_13 : decode cX4_arriveRow 13 = .ok (.sipush 300, 3) := by decide +kernel
theorem dX4_arriveRow_16 : decode cX4_arriveRow 16 = .ok (.iload_n 1, 1) := by decide +kernel
theorem dX4_arriveRow_17 : decode cX4_arriveRow 17 = .ok (.isub, 1) := by decide +kernel
theorem dX4_arriveRow_18 : decode cX4_arriveRow 18 = .ok (.if_icmp .gt 7, 3) := by decide +kernel
theorem dX4_arriveRow_21 : decode cX4_arriveRow 21 = .ok (.iconst 1, 1) := by decide +kernel
theorem dX4_arriveRow_22 : decode cX4_arriveRow 22 = .ok (.goto 4, 3) := by decide +kernel
theorem dX4_arriveRow_25 : decode cX4_arriveRow 25 = .ok (.iconst 0, 1) := by decide +kernel
theorem dX4_arriveRow_26 : decode cX4_arriveRow 26 = .ok (.invokevirtual 52, 3) := by decide +kernel
theorem dX4_arriveRow_29 : decode cX4_arriveRow 29 = .ok (.ifCond .ne 5, 3) := by decide +kernel
theorem dX4_arriveRow_32 : decode cX4_arriveRow 32 = .ok (.iconst 0, 1) := by decide +kernel
theorem dX4_arriveRow_33 : decode cX4_arriveRow 33 = .ok (.ireturn, 1) := by decide +kernel
theorem dX4_arriveRow_34 : decode cX4_arriveRow 34 = .ok (.iload_n 2, 1) := by decide +kernel
theorem dX4_arriveRow_35 : decode cX4_arriveRow 35 = .ok (.iconst 1, 1) := by decide +kernel
theorem dX4_arriveRow_36 : decode cX4_arriveRow 36 = .ok (.bipush 30, 2) := by decide +kernel
theorem dX4_arriveRow_38 : decode cX4_arriveRow 38 = .ok (.invokestatic 48, 3) := by decide +kernel
theorem dX4_arriveRow_41 : decode cX4_arriveRow 41 = .ok (.ifCond .ne 9, 3) := by decide +kernel
theorem dX4_arriveRow_44 : decode cX4_arriveRow 44 = .ok (.aload_n 0, 1) := by decide +kernel
theorem dX4_arriveRow_45 : decode cX4_arriveRow 45 = .ok (.iconst 2, 1) := by decide +kernel
theorem dX4_arriveRow_46 : decode cX4_arriveRow 46 = .ok (.invokevirtual 72, 3) := by decide +kernel
theorem dX4_arriveRow_49 : decode cX4_arriveRow 49 = .ok (.ireturn, 1) := by decide +kernel
theorem dX4_arriveRow_50 : decode cX4_arriveRow 50 = .ok (.iconst 0, 1) := by decide +kernel
theorem dX4_arriveRow_51 : decode cX4_arriveRow 51 = .ok (.istore_n 3, 1) := by decide +kernel
theorem dX4_arriveRow_52 : decode cX4_arriveRow 52 = .ok (.iload_n 1, 1) := by decide +kernel
theorem dX4_arriveRow_53 : decode cX4_arriveRow 53 = .ok (.istore 4, 2) := by decide +kernel
theorem dX4_arriveRow_55 : decode cX4_arriveRow 55 = .ok (.iload 4, 2) := by decide +kernel
theorem dX4_arriveRow_57 : decode cX4_arriveRow 57 = .ok (.iload_n 1, 1) := by decide +kernel
theorem dX4_arriveRow_58 : decode cX4_arriveRow 58 = .ok (.iload_n 2, 1) := by decide +kernel
theorem dX4_arriveRow_59 : decode cX4_arriveRow 59 = .ok (.iadd, 1) := by decide +kernel
theorem dX4_arriveRow_60 : decode cX4_arriveRow 60 = .ok (.if_icmp .ge 26, 3) := by decide +kernel
theorem dX4_arriveRow_63 : decode cX4_arriveRow 63 = .ok (.iload_n 3, 1) := by decide +kernel
theorem dX4_arriveRow_64 : decode cX4_arriveRow 64 = .ok (.aload_n 0, 1) := by decide +kernel
theorem dX4_arriveRow_65 : decode cX4_arriveRow 65 = .ok (.iload 4, 2) := by decide +kernel
theorem dX4_arriveRow_67 : decode cX4_arriveRow 67 = .ok (.invokevirtual 68, 3) := by decide +kernel
theorem dX4_arriveRow_70 : decode cX4_arriveRow 70 = .ok (.ifCond .eq 7, 3) := by decide +kernel
theorem dX4_arriveRow_73 : decode cX4_arriveRow 73 = .ok (.iconst 0, 1) := by decide +kernel
theorem dX4_arriveRow_74 : decode cX4_arriveRow 74 = .ok (.goto 4, 3) := by decide +kernel
theorem dX4_arriveRow_77 : decode cX4_arriveRow 77 = .ok (.iconst 1, 1) := by decide +kernel
theorem dX4_arriveRow_78 : decode cX4_arriveRow 78 = .ok (.iadd, 1) := by decide +kernel
theorem dX4_arriveRow_79 : decode cX4_arriveRow 79 = .ok (.istore_n 3, 1) := by decide +kernel
theorem dX4_arriveRow_80 : decode cX4_arriveRow 80 = .ok (.iinc 4 1, 3) := by decide +kernel
theorem dX4_arriveRow_83 : decode cX4_arriveRow 83 = .ok (.goto (-28), 3) := by decide +kernel
theorem dX4_arriveRow_86 : decode cX4_arriveRow 86 = .ok (.iload_n 3, 1) := by decide +kernel
theorem dX4_arriveRow_87 : decode cX4_arriveRow 87 = .ok (.ireturn, 1) := by decide +kernel
theorem dX4_takes_0 : decode cX4_takes 0 = .ok (.iconst 0, 1) := by decide +kernel
theorem dX4_takes_1 : decode cX4_takes 1 = .ok (.istore_n 2, 1) := by decide +kernel
theorem dX4_takes_2 : decode cX4_takes 2 = .ok (.iload_n 2, 1) := by decide +kernel
theorem dX4_takes_3 : decode cX4_takes 3 = .ok (.iload_n 1, 1) := by decide +kernel
theorem dX4_takes_4 : decode cX4_takes 4 = .ok (.if_icmp .ge 54, 3) := by decide +kernel
theorem dX4_takes_7 : decode cX4_takes 7 = .ok (.aload_n 0, 1) := by decide +kernel
theorem dX4_takes_8 : decode cX4_takes 8 = .ok (.getfield 56, 3) := by decide +kernel
theorem dX4_takes_11 : decode cX4_takes 11 = .ok (.ifCond .le 47, 3) := by decide +kernel
theorem dX4_takes_14 : decode cX4_takes 14 = .ok (.aload_n 0, 1) := by decide +kernel
theorem dX4_takes_15 : decode cX4_takes 15 = .ok (.getfield 29, 3) := by decide +kernel
theorem dX4_takes_18 : decode cX4_takes 18 = .ok (.aload_n 0, 1) := by decide +kernel
theorem dX4_takes_19 : decode cX4_takes 19 = .ok (.getfield 22, 3) := by decide +kernel
theorem dX4_takes_22 : decode cX4_takes 22 = .ok (.aload_n 0, 1) := by decide +kernel
theorem dX4_takes_23 : decode cX4_takes 23 = .ok (.getfield 62, 3) := by decide +kernel
theorem dX4_takes_26 : decode cX4_takes 26 = .ok (.iaload, 1) := by decide +kernel
theorem dX4_takes_27 : decode cX4_takes 27 = .ok (.iconst 1, 1) := by decide +kernel
theorem dX4_takes_28 : decode cX4_takes 28 = .ok (.bastore, 1) := by decide +kernel
theorem dX4_takes_29 : decode cX4_takes 29 = .ok (.aload_n 0, 1) := by decide +kernel
theorem dX4_takes_30 : decode cX4_takes 30 = .ok (.aload_n 0, 1) := by decide +kernel
theorem dX4_takes_31 : decode cX4_takes 31 = .ok (.getfield 62, 3) := by decide +kernel
theorem dX4_takes_34 : decode cX4_takes 34 = .ok (.iconst 1, 1) := by decide +kernel
theorem dX4_takes_35 : decode cX4_takes 35 = .ok (.iadd, 1) := by decide +kernel
theorem dX4_takes_36 : decode cX4_takes 36 = .ok (.bipush 32, 2) := by decide +kernel
theorem dX4_takes_38 : decode cX4_takes 38 = .ok (.irem, 1) := by decide +kernel
theorem dX4_takes_39 : decode cX4_takes 39 = .ok (.putfield 62, 3) := by decide +kernel
theorem dX4_takes_42 : decode cX4_takes 42 = .ok (.aload_n 0, 1) := by decide +kernel
theorem dX4_takes_43 : decode cX4_takes 43 = .ok (.dup, 1) := by decide +kernel
theorem dX4_takes_44 : decode cX4_takes 44 = .ok (.getfield 56, 3) := by decide +kernel
theorem dX4_takes_47 : decode cX4_takes 47 = .ok (.iconst 1, 1) := by decide +kernel
theorem dX4_takes_48 : decode cX4_takes 48 = .ok (.isub, 1) := by decide +kernel
theorem dX4_takes_49 : decode cX4_takes 49 = .ok (.putfield 56, 3) := by decide +kernel
theorem dX4_takes_52 : decode cX4_takes 52 = .ok (.iinc 2 1, 3) := by decide +kernel
theorem dX4_takes_55 : decode cX4_takes 55 = .ok (.goto (-53), 3) := by decide +kernel
theorem dX4_takes_58 : decode cX4_takes 58 = .ok (.return_, 1) := by decide +kernel
set_option maxRecDepth 20000 in
theorem ggX4_drives_X4_takes : GoodIn wsX4_drives wsX4_takes := goodIn_r _ [13, 2, 14, 15, 6, 16, 17, 18, 19, 20, 21, 22, 23, 24, 25, 26, 27, 28, 29, 30, 31, 32, 33, 34, 35, 36, 37] (by decide +kernel) (by decide +kernel)
set_option maxRecDepth 20000 in
theorem gX4_drives_X4_takes : GoodIn wsX4_drives (wsV RX4 80 RX4 yX4_takes wsX4_takes) := goodIn_app (goodIn_of _ (by decide +kernel)) ggX4_drives_X4_takes
theorem dX4_drives_0 : decode cX4_drives 0 = .ok (.aload_n 0, 1) := by decide +kernel
theorem dX4_drives_1 : decode cX4_drives 1 = .ok (.getfield 76, 3) := by decide +kernel
theorem dX4_drives_4 : decode cX4_drives 4 = .ok (.ifCond .eq 28, 3) := by decide +kernel
theorem dX4_drives_7 : decode cX4_drives 7 = .ok (.aload_n 0, 1) := by decide +kernel
theorem dX4_drives_8 : decode cX4_drives 8 = .ok (.aload_n 0, 1) := by decide +kernel
theorem dX4_drives_9 : decode cX4_drives 9 = .ok (.getfield 56, 3) := by decide +kernel
theorem dX4_drives_12 : decode cX4_drives 12 = .ok (.ifCond .le 7, 3) := by decide +kernel
theorem dX4_drives_15 : decode cX4_drives 15 = .ok (.iconst 1, 1) := by decide +kernel
theorem dX4_drives_16 : decode cX4_drives 16 = .ok (.goto 4, 3) := by decide +kernel
theorem dX4_drives_19 : decode cX4_drives 19 = .ok (.iconst 0, 1) := by decide +kernel
theorem dX4_drives_20 : decode cX4_drives 20 = .ok (.putfield 76, 3) := by decide +kernel
theorem dX4_drives_23 : decode cX4_drives 23 = .ok (.aload_n 0, 1) := by decide +kernel
theorem dX4_drives_24 : decode cX4_drives 24 = .ok (.bipush 6, 2) := by decide +kernel
theorem dX4_drives_26 : decode cX4_drives 26 = .ok (.invokevirtual 80, 3) := by decide +kernel
theorem dX4_drives_29 : decode cX4_drives 29 = .ok (.goto 68, 3) := by decide +kernel
theorem dX4_drives_32 : decode cX4_drives 32 = .ok (.aload_n 0, 1) := by decide +kernel
theorem dX4_drives_33 : decode cX4_drives 33 = .ok (.getfield 56, 3) := by decide +kernel
theorem dX4_drives_36 : decode cX4_drives 36 = .ok (.aload_n 0, 1) := by decide +kernel
theorem dX4_drives_37 : decode cX4_drives 37 = .ok (.getfield 13, 3) := by decide +kernel
theorem dX4_drives_40 : decode cX4_drives 40 = .ok (.if_icmp .ge 31, 3) := by decide +kernel
theorem dX4_drives_43 : decode cX4_drives 43 = .ok (.aload_n 0, 1) := by decide +kernel
theorem dX4_drives_44 : decode cX4_drives 44 = .ok (.getfield 56, 3) := by decide +kernel
theorem dX4_drives_47 : decode cX4_drives 47 = .ok (.ifCond .le 50, 3) := by decide +kernel
theorem dX4_drives_50 : decode cX4_drives 50 = .ok (.aload_n 0, 1) := by decide +kernel
theorem dX4_drives_51 : decode cX4_drives 51 = .ok (.getfield 65, 3) := by decide +kernel
theorem dX4_drives_54 : decode cX4_drives 54 = .ok (.aload_n 0, 1) := by decide +kernel
theorem dX4_drives_55 : decode cX4_drives 55 = .ok (.getfield 26, 3) := by decide +kernel
theorem dX4_drives_58 : decode cX4_drives 58 = .ok (.aload_n 0, 1) := by decide +kernel
theorem dX4_drives_59 : decode cX4_drives 59 = .ok (.getfield 62, 3) := by decide +kernel
theorem dX4_drives_62 : decode cX4_drives 62 = .ok (.iaload, 1) := by decide +kernel
theorem dX4_drives_63 : decode cX4_drives 63 = .ok (.isub, 1) := by decide +kernel
theorem dX4_drives_64 : decode cX4_drives 64 = .ok (.aload_n 0, 1) := by decide +kernel
theorem dX4_drives_65 : decode cX4_drives 65 = .ok (.getfield 16, 3) := by decide +kernel
theorem dX4_drives_68 : decode cX4_drives 68 = .ok (.if_icmp .lt 29, 3) := by decide +kernel
theorem dX4_drives_71 : decode cX4_drives 71 = .ok (.aload_n 0, 1) := by decide +kernel
theorem dX4_drives_72 : decode cX4_drives 72 = .ok (.aload_n 0, 1) := by decide +kernel
theorem dX4_drives_73 : decode cX4_drives 73 = .ok (.getfield 56, 3) := by decide +kernel
theorem dX4_drives_76 : decode cX4_drives 76 = .ok (.aload_n 0, 1) := by decide +kernel
theorem dX4_drives_77 : decode cX4_drives 77 = .ok (.getfield 19, 3) := by decide +kernel
theorem dX4_drives_80 : decode cX4_drives 80 = .ok (.if_icmp .lt 7, 3) := by decide +kernel
theorem dX4_drives_83 : decode cX4_drives 83 = .ok (.iconst 1, 1) := by decide +kernel
theorem dX4_drives_84 : decode cX4_drives 84 = .ok (.goto 4, 3) := by decide +kernel
theorem dX4_drives_87 : decode cX4_drives 87 = .ok (.iconst 0, 1) := by decide +kernel
theorem dX4_drives_88 : decode cX4_drives 88 = .ok (.putfield 76, 3) := by decide +kernel
theorem dX4_drives_91 : decode cX4_drives 91 = .ok (.aload_n 0, 1) := by decide +kernel
theorem dX4_drives_92 : decode cX4_drives 92 = .ok (.bipush 32, 2) := by decide +kernel
theorem dX4_drives_94 : decode cX4_drives 94 = .ok (.invokevirtual 80, 3) := by decide +kernel
theorem dX4_drives_97 : decode cX4_drives 97 = .ok (.return_, 1) := by decide +kernel
theorem dX4_asksFor_0 : decode cX4_asksFor 0 = .ok (.sipush 299, 3) := by decide +kernel
theorem dX4_asksFor_3 : decode cX4_asksFor 3 = .ok (.istore_n 1, 1) := by decide +kernel
theorem dX4_asksFor_4 : decode cX4_asksFor 4 = .ok (.iload_n 1, 1) := by decide +kernel
theorem dX4_asksFor_5 : decode cX4_asksFor 5 = .ok (.ifCond .lt 18, 3) := by decide +kernel
theorem dX4_asksFor_8 : decode cX4_asksFor 8 = .ok (.aload_n 0, 1) := by decide +kernel
theorem dX4_asksFor_9 : decode cX4_asksFor 9 = .ok (.getfield 29, 3) := by decide +kernel
theorem dX4_asksFor_12 : decode cX4_asksFor 12 = .ok (.iload_n 1, 1) := by decide +kernel
theorem dX4_asksFor_13 : decode cX4_asksFor 13 = .ok (.baload, 1) := by decide +kernel
theorem dX4_asksFor_14 : decode cX4_asksFor 14 = .ok (.ifCond .ne 9, 3) := by decide +kernel
theorem dX4_asksFor_17 : decode cX4_asksFor 17 = .ok (.iinc 1 (-1), 3) := by decide +kernel
theorem dX4_asksFor_20 : decode cX4_asksFor 20 = .ok (.goto (-16), 3) := by decide +kernel
theorem dX4_asksFor_23 : decode cX4_asksFor 23 = .ok (.iconst 0, 1) := by decide +kernel
theorem dX4_asksFor_24 : decode cX4_asksFor 24 = .ok (.istore_n 2, 1) := by decide +kernel
theorem dX4_asksFor_25 : decode cX4_asksFor 25 = .ok (.iload_n 2, 1) := by decide +kernel
theorem dX4_asksFor_26 : decode cX4_asksFor 26 = .ok (.iload_n 1, 1) := by decide +kernel
theorem dX4_asksFor_27 : decode cX4_asksFor 27 = .ok (.if_icmp .ge 64, 3) := by decide +kernel
theorem dX4_asksFor_30 : decode cX4_asksFor 30 = .ok (.aload_n 0, 1) := by decide +kernel
theorem dX4_asksFor_31 : decode cX4_asksFor 31 = .ok (.getfield 29, 3) := by decide +kernel
theorem dX4_asksFor_34 : decode cX4_asksFor 34 = .ok (.iload_n 2, 1) := by decide +kernel
theorem dX4_asksFor_35 : decode cX4_asksFor 35 = .ok (.baload, 1) := by decide +kernel
theorem dX4_asksFor_36 : decode cX4_asksFor 36 = .ok (.ifCond .ne 49, 3) := by decide +kernel
theorem dX4_asksFor_39 : decode cX4_asksFor 39 = .ok (.aload_n 0, 1) := by decide +kernel
theorem dX4_asksFor_40 : decode cX4_asksFor 40 = .ok (.getfield 33, 3) := by decide +kernel
theorem dX4_asksFor_43 : decode cX4_asksFor 43 = .ok (.iload_n 2, 1) := by decide +kernel
theorem dX4_asksFor_44 : decode cX4_asksFor 44 = .ok (.baload, 1) := by decide +kernel
theorem dX4_asksFor_45 : decode cX4_asksFor 45 = .ok (.ifCond .ne 40, 3) := by decide +kernel
theorem dX4_asksFor_48 : decode cX4_asksFor 48 = .ok (.iload_n 2, 1) := by decide +kernel
theorem dX4_asksFor_49 : decode cX4_asksFor 49 = .ok (.iconst 3, 1) := by decide +kernel
theorem dX4_asksFor_50 : decode cX4_asksFor 50 = .ok (.idiv, 1) := by decide +kernel
theorem dX4_asksFor_51 : decode cX4_asksFor 51 = .ok (.aload_n 0, 1) := by decide +kernel
theorem dX4_asksFor_52 : decode cX4_asksFor 52 = .ok (.getfield 84, 3) := by decide +kernel
theorem dX4_asksFor_55 : decode cX4_asksFor 55 = .ok (.if_icmp .lt 30, 3) := by decide +kernel
theorem dX4_asksFor_58 : decode cX4_asksFor 58 = .ok (.aload_n 0, 1) := by decide +kernel
theorem dX4_asksFor_59 : decode cX4_asksFor 59 = .ok (.getfield 33, 3) := by decide +kernel
theorem dX4_asksFor_62 : decode cX4_asksFor 62 = .ok (.iload_n 2, 1) := by decide +kernel
theorem dX4_asksFor_63 : decode cX4_asksFor 63 = .ok (.iconst 1, 1) := by decide +kernel
theorem dX4_asksFor_64 : decode cX4_asksFor 64 = .ok (.bastore, 1) := by decide +kernel
theorem dX4_asksFor_65 : decode cX4_asksFor 65 = .ok (.aload_n 0, 1) := by decide +kernel
theorem dX4_asksFor_66 : decode cX4_asksFor 66 = .ok (.getfield 36, 3) := by decide +kernel
theorem dX4_asksFor_69 : decode cX4_asksFor 69 = .ok (.aload_n 0, 1) := by decide +kernel
theorem dX4_asksFor_70 : decode cX4_asksFor 70 = .ok (.getfield 87, 3) := by decide +kernel
theorem dX4_asksFor_73 : decode cX4_asksFor 73 = .ok (.iload_n 2, 1) := by decide +kernel
theorem dX4_asksFor_74 : decode cX4_asksFor 74 = .ok (.iastore, 1) := by decide +kernel
theorem dX4_asksFor_75 : decode cX4_asksFor 75 = .ok (.aload_n 0, 1) := by decide +kernel
theorem dX4_asksFor_76 : decode cX4_asksFor 76 = .ok (.dup, 1) := by decide +kernel
theorem dX4_asksFor_77 : decode cX4_asksFor 77 = .ok (.getfield 87, 3) := by decide +kernel
theorem dX4_asksFor_80 : decode cX4_asksFor 80 = .ok (.iconst 1, 1) := by decide +kernel
theorem dX4_asksFor_81 : decode cX4_asksFor 81 = .ok (.iadd, 1) := by decide +kernel
theorem dX4_asksFor_82 : decode cX4_asksFor 82 = .ok (.putfield 87, 3) := by decide +kernel
theorem dX4_asksFor_85 : decode cX4_asksFor 85 = .ok (.iinc 2 1, 3) := by decide +kernel
theorem dX4_asksFor_88 : decode cX4_asksFor 88 = .ok (.goto (-63), 3) := by decide +kernel
theorem dX4_asksFor_91 : decode cX4_asksFor 91 = .ok (.return_, 1) := by decide +kernel
theorem dX4_whole_0 : decode cX4_whole 0 = .ok (.aload_n 0, 1) := by decide +kernel
theorem dX4_whole_1 : decode cX4_whole 1 = .ok (.getfield 29, 3) := by decide +kernel
theorem dX4_whole_4 : decode cX4_whole 4 = .ok (.iconst 3, 1) := by decide +kernel
theorem dX4_whole_5 : decode cX4_whole 5 = .ok (.iload_n 1, 1) := by decide +kernel
theorem dX4_whole_6 : decode cX4_whole 6 = .ok (.imul, 1) := by decide +kernel
theorem dX4_whole_7 : decode cX4_whole 7 = .ok (.baload, 1) := by decide +kernel
theorem dX4_whole_8 : decode cX4_whole 8 = .ok (.ifCond .eq 33, 3) := by decide +kernel
theorem dX4_whole_11 : decode cX4_whole 11 = .ok (.aload_n 0, 1) := by decide +kernel
theorem dX4_whole_12 : decode cX4_whole 12 = .ok (.getfield 29, 3) := by decide +kernel
theorem dX4_whole_15 : decode cX4_whole 15 = .ok (.iconst 3, 1) := by decide +kernel
theorem dX4_whole_16 : decode cX4_whole 16 = .ok (.iload_n 1, 1) := by decide +kernel
theorem dX4_whole_17 : decode cX4_whole 17 = .ok (.imul, 1) := by decide +kernel
theorem dX4_whole_18 : decode cX4_whole 18 = .ok (.iconst 1, 1) := by decide +kernel
theorem dX4_whole_19 : decode cX4_whole 19 = .ok (.iadd, 1) := by decide +kernel
theorem dX4_whole_20 : decode cX4_whole 20 = .ok (.baload, 1) := by decide +kernel
theorem dX4_whole_21 : decode cX4_whole 21 = .ok (.ifCond .eq 20, 3) := by decide +kernel
theorem dX4_whole_24 : decode cX4_whole 24 = .ok (.aload_n 0, 1) := by decide +kernel
theorem dX4_whole_25 : decode cX4_whole 25 = .ok (.getfield 29, 3) := by decide +kernel
theorem dX4_whole_28 : decode cX4_whole 28 = .ok (.iconst 3, 1) := by decide +kernel
theorem dX4_whole_29 : decode cX4_whole 29 = .ok (.iload_n 1, 1) := by decide +kernel
theorem dX4_whole_30 : decode cX4_whole 30 = .ok (.imul, 1) := by decide +kernel
theorem dX4_whole_31 : decode cX4_whole 31 = .ok (.iconst 2, 1) := by decide +kernel
theorem dX4_whole_32 : decode cX4_whole 32 = .ok (.iadd, 1) := by decide +kernel
theorem dX4_whole_33 : decode cX4_whole 33 = .ok (.baload, 1) := by decide +kernel
theorem dX4_whole_34 : decode cX4_whole 34 = .ok (.ifCond .eq 7, 3) := by decide +kernel
theorem dX4_whole_37 : decode cX4_whole 37 = .ok (.iconst 1, 1) := by decide +kernel
theorem dX4_whole_38 : decode cX4_whole 38 = .ok (.goto 4, 3) := by decide +kernel
theorem dX4_whole_41 : decode cX4_whole 41 = .ok (.iconst 0, 1) := by decide +kernel
theorem dX4_whole_42 : decode cX4_whole 42 = .ok (.ireturn, 1) := by decide +kernel
theorem dX4_kind_0 : decode cX4_kind 0 = .ok (.iload_n 0, 1) := by decide +kernel
theorem dX4_kind_1 : decode cX4_kind 1 = .ok (.bipush 6, 2) := by decide +kernel
theorem dX4_kind_3 : decode cX4_kind 3 = .ok (.irem, 1) := by decide +kernel
theorem dX4_kind_4 : decode cX4_kind 4 = .ok (.ifCond .ne 7, 3) := by decide +kernel
theorem dX4_kind_7 : decode cX4_kind 7 = .ok (.iconst 0, 1) := by decide +kernel
theorem dX4_kind_8 : decode cX4_kind 8 = .ok (.goto 14, 3) := by decide +kernel
theorem dX4_kind_11 : decode cX4_kind 11 = .ok (.iload_n 0, 1) := by decide +kernel
theorem dX4_kind_12 : decode cX4_kind 12 = .ok (.iconst 3, 1) := by decide +kernel
theorem dX4_kind_13 : decode cX4_kind 13 = .ok (.irem, 1) := by decide +kernel
theorem dX4_kind_14 : decode cX4_kind 14 = .ok (.ifCond .ne 7, 3) := by decide +kernel
theorem dX4_kind_17 : decode cX4_kind 17 = .ok (.iconst 1, 1) := by decide +kernel
theorem dX4_kind_18 : decode cX4_kind 18 = .ok (.goto 4, 3) := by decide +kernel
theorem dX4_kind_21 : decode cX4_kind 21 = .ok (.iconst 2, 1) := by decide +kernel
theorem dX4_kind_22 : decode cX4_kind 22 = .ok (.ireturn, 1) := by decide +kernel
set_option maxRecDepth 20000 in
theorem ggX4_before_X4_kind : GoodIn wsX4_before wsX4_kind := goodIn_r _ [4] (by decide +kernel) (by decide +kernel)
set_option maxRecDepth 20000 in
theorem gX4_before_X4_kind : GoodIn wsX4_before (va_wsS RX4 90 yX4_kind wsX4_kind) := goodIn_app (goodIn_of _ (by decide +kernel)) ggX4_before_X4_kind
theorem dX4_before_0 : decode cX4_before 0 = .ok (.iload_n 0, 1) := by decide +kernel
theorem dX4_before_1 : decode cX4_before 1 = .ok (.invokestatic 90, 3) := by decide +kernel
theorem dX4_before_4 : decode cX4_before 4 = .ok (.istore_n 1, 1) := by decide +kernel
theorem dX4_before_5 : decode cX4_before 5 = .ok (.iload_n 1, 1) := by decide +kernel
theorem dX4_before_6 : decode cX4_before 6 = .ok (.ifCond .ne 7, 3) := by decide +kernel
theorem dX4_before_9 : decode cX4_before 9 = .ok (.iconst (-1), 1) := by decide +kernel
theorem dX4_before_10 : decode cX4_before 10 = .ok (.goto 19, 3) := by decide +kernel
theorem dX4_before_13 : decode cX4_before 13 = .ok (.iload_n 1, 1) := by decide +kernel
theorem dX4_before_14 : decode cX4_before 14 = .ok (.iconst 1, 1) := by decide +kernel
theorem dX4_before_15 : decode cX4_before 15 = .ok (.if_icmp .ne 9, 3) := by decide +kernel
theorem dX4_before_18 : decode cX4_before 18 = .ok (.iload_n 0, 1) := by decide +kernel
theorem dX4_before_19 : decode cX4_before 19 = .ok (.iconst 3, 1) := by decide +kernel
theorem dX4_before_20 : decode cX4_before 20 = .ok (.isub, 1) := by decide +kernel
theorem dX4_before_21 : decode cX4_before 21 = .ok (.goto 8, 3) := by decide +kernel
theorem dX4_before_24 : decode cX4_before 24 = .ok (.iload_n 0, 1) := by decide +kernel
theorem dX4_before_25 : decode cX4_before 25 = .ok (.iload_n 0, 1) := by decide +kernel
theorem dX4_before_26 : decode cX4_before 26 = .ok (.iconst 3, 1) := by decide +kernel
theorem dX4_before_27 : decode cX4_before 27 = .ok (.irem, 1) := by decide +kernel
theorem dX4_before_28 : decode cX4_before 28 = .ok (.isub, 1) := by decide +kernel
theorem dX4_before_29 : decode cX4_before 29 = .ok (.ireturn, 1) := by decide +kernel
set_option maxRecDepth 20000 in
theorem ggX4_behind_X4_kind : GoodIn wsX4_behind wsX4_kind := goodIn_r _ [4] (by decide +kernel) (by decide +kernel)
set_option maxRecDepth 20000 in
theorem gX4_behind_X4_kind : GoodIn wsX4_behind (va_wsS RX4 90 yX4_kind wsX4_kind) := goodIn_app (goodIn_of _ (by decide +kernel)) ggX4_behind_X4_kind
theorem dX4_behind_0 : decode cX4_behind 0 = .ok (.iload_n 0, 1) := by decide +kernel
theorem dX4_behind_1 : decode cX4_behind 1 = .ok (.iload_n 0, 1) := by decide +kernel
theorem dX4_behind_2 : decode cX4_behind 2 = .ok (.iconst 3, 1) := by decide +kernel
theorem dX4_behind_3 : decode cX4_behind 3 = .ok (.irem, 1) := by decide +kernel
theorem dX4_behind_4 : decode cX4_behind 4 = .ok (.isub, 1) := by decide +kernel
theorem dX4_behind_5 : decode cX4_behind 5 = .ok (.iconst 3, 1) := by decide +kernel
theorem dX4_behind_6 : decode cX4_behind 6 = .ok (.iadd, 1) := by decide +kernel
theorem dX4_behind_7 : decode cX4_behind 7 = .ok (.istore_n 1, 1) := by decide +kernel
theorem dX4_behind_8 : decode cX4_behind 8 = .ok (.iload_n 0, 1) := by decide +kernel
theorem dX4_behind_9 : decode cX4_behind 9 = .ok (.invokestatic 90, 3) := by decide +kernel
theorem dX4_behind_12 : decode cX4_behind 12 = .ok (.iconst 2, 1) := by decide +kernel
theorem dX4_behind_13 : decode cX4_behind 13 = .ok (.if_icmp .ne 13, 3) := by decide +kernel
theorem dX4_behind_16 : decode cX4_behind 16 = .ok (.iload_n 1, 1) := by decide +kernel
theorem dX4_behind_17 : decode cX4_behind 17 = .ok (.bipush 100, 2) := by decide +kernel
theorem dX4_behind_19 : decode cX4_behind 19 = .ok (.if_icmp .ge 7, 3) := by decide +kernel
theorem dX4_behind_22 : decode cX4_behind 22 = .ok (.iload_n 1, 1) := by decide +kernel
theorem dX4_behind_23 : decode cX4_behind 23 = .ok (.goto 4, 3) := by decide +kernel
theorem dX4_behind_26 : decode cX4_behind 26 = .ok (.iconst (-1), 1) := by decide +kernel
theorem dX4_behind_27 : decode cX4_behind 27 = .ok (.ireturn, 1) := by decide +kernel
set_option maxRecDepth 20000 in
theorem ggX4_fillNow_X4_whole : GoodIn wsX4_fillNow wsX4_whole := goodIn_r _ [6, 7, 8, 9, 10, 11, 12, 13, 14, 15, 16, 17, 18, 19, 20, 21, 22, 23, 24, 25, 26, 27, 28, 29] (by decide +kernel) (by decide +kernel)
set_option maxRecDepth 20000 in
theorem gX4_fillNow_X4_whole : GoodIn wsX4_fillNow (wsV RX4 93 RX4 yX4_whole wsX4_whole) := goodIn_app (goodIn_of _ (by decide +kernel)) ggX4_fillNow_X4_whole
theorem dX4_fillNow_0 : decode cX4_fillNow 0 = .ok (.iconst 0, 1) := by decide +kernel
theorem dX4_fillNow_1 : decode cX4_fillNow 1 = .ok (.istore_n 1, 1) := by decide +kernel
theorem dX4_fillNow_2 : decode cX4_fillNow 2 = .ok (.aload_n 0, 1) := by decide +kernel
theorem dX4_fillNow_3 : decode cX4_fillNow 3 = .ok (.getfield 84, 3) := by decide +kernel
theorem dX4_fillNow_6 : decode cX4_fillNow 6 = .ok (.iload_n 1, 1) := by decide +kernel
theorem dX4_fillNow_7 : decode cX4_fillNow 7 = .ok (.iadd, 1) := by decide +kernel
theorem dX4_fillNow_8 : decode cX4_fillNow 8 = .ok (.bipush 100, 2) := by decide +kernel
theorem dX4_fillNow_10 : decode cX4_fillNow 10 = .ok (.if_icmp .ge 22, 3) := by decide +kernel
theorem dX4_fillNow_13 : decode cX4_fillNow 13 = .ok (.aload_n 0, 1) := by decide +kernel
theorem dX4_fillNow_14 : decode cX4_fillNow 14 = .ok (.aload_n 0, 1) := by decide +kernel
theorem dX4_fillNow_15 : decode cX4_fillNow 15 = .ok (.getfield 84, 3) := by decide +kernel
theorem dX4_fillNow_18 : decode cX4_fillNow 18 = .ok (.iload_n 1, 1) := by decide +kernel
theorem dX4_fillNow_19 : decode cX4_fillNow 19 = .ok (.iadd, 1) := by decide +kernel
theorem dX4_fillNow_20 : decode cX4_fillNow 20 = .ok (.invokevirtual 93, 3) := by decide +kernel
theorem dX4_fillNow_23 : decode cX4_fillNow 23 = .ok (.ifCond .eq 9, 3) := by decide +kernel
theorem dX4_fillNow_26 : decode cX4_fillNow 26 = .ok (.iinc 1 1, 3) := by decide +kernel
theorem dX4_fillNow_29 : decode cX4_fillNow 29 = .ok (.goto (-27), 3) := by decide +kernel
theorem dX4_fillNow_32 : decode cX4_fillNow 32 = .ok (.iload_n 1, 1) := by decide +kernel
theorem dX4_fillNow_33 : decode cX4_fillNow 33 = .ok (.ireturn, 1) := by decide +kernel
set_option maxRecDepth 20000 in
theorem ggX4_turns_X4_before : GoodIn wsX4_turns wsX4_before := goodIn_r _ [8, 9, 10, 7, 11] (by decide +kernel) (by decide +kernel)
set_option maxRecDepth 20000 in
theorem gX4_turns_X4_before : GoodIn wsX4_turns (va_wsS RX4 96 yX4_before wsX4_before) := goodIn_app (goodIn_of _ (by decide +kernel)) ggX4_turns_X4_before
set_option maxRecDepth 20000 in
theorem ggX4_turns_X4_behind : GoodIn wsX4_turns wsX4_behind := goodIn_r _ [14, 9, 10, 7, 11] (by decide +kernel) (by decide +kernel)
set_option maxRecDepth 20000 in
theorem gX4_turns_X4_behind : GoodIn wsX4_turns (va_wsS RX4 99 yX4_behind wsX4_behind) := goodIn_app (goodIn_of _ (by decide +kernel)) ggX4_turns_X4_behind
set_option maxRecDepth 20000 in
theorem ggX4_turns_X4_whole : GoodIn wsX4_turns wsX4_whole := goodIn_r _ [18, 19, 24, 25, 26, 27, 28, 29, 30, 31, 32, 33, 34, 35, 36, 37, 38, 39, 40, 41, 42, 43, 44, 45] (by decide +kernel) (by decide +kernel)
set_option maxRecDepth 20000 in
theorem gX4_turns_X4_whole : GoodIn wsX4_turns (wsV RX4 93 RX4 yX4_whole wsX4_whole) := goodIn_app (goodIn_of _ (by decide +kernel)) ggX4_turns_X4_whole
set_option maxRecDepth 20000 in
theorem ggX4_turns_X4_fillNow : GoodIn wsX4_turns wsX4_fillNow := goodIn_r _ [23, 1, 15, 16, 17, 7, 18, 19, 24, 25, 26, 27, 28, 29, 30, 31, 32, 33, 34, 35, 36, 37, 38, 39, 40, 41, 42, 43, 44, 45] (by decide +kernel) (by decide +kernel)
set_option maxRecDepth 20000 in
theorem gX4_turns_X4_fillNow : GoodIn wsX4_turns (wsV RX4 102 RX4 yX4_fillNow wsX4_fillNow) := goodIn_app (goodIn_of _ (by decide +kernel)) ggX4_turns_X4_fillNow
theorem dX4_turns_0 : decode cX4_turns 0 = .ok (.aload_n 0, 1) := by decide +kernel
theorem dX4_turns_1 : decode cX4_turns 1 = .ok (.getfield 84, 3) := by decide +kernel
theorem dX4_turns_4 : decode cX4_turns 4 = .ok (.istore_n 1, 1) := by decide +kernel
theorem dX4_turns_5 : decode cX4_turns 5 = .ok (.iload_n 1, 1) := by decide +kernel
theorem dX4_turns_6 : decode cX4_turns 6 = .ok (.invokestatic 96, 3) := by decide +kernel
theorem dX4_turns_9 : decode cX4_turns 9 = .ok (.iconst (-1), 1) := by decide +kernel
theorem dX4_turns_10 : decode cX4_turns 10 = .ok (.if_icmp .eq 16, 3) := by decide +kernel
theorem dX4_turns_13 : decode cX4_turns 13 = .ok (.aload_n 0, 1) := by decide +kernel
theorem dX4_turns_14 : decode cX4_turns 14 = .ok (.getfield 39, 3) := by decide +kernel
theorem dX4_turns_17 : decode cX4_turns 17 = .ok (.iload_n 1, 1) := by decide +kernel
theorem dX4_turns_18 : decode cX4_turns 18 = .ok (.invokestatic 96, 3) := by decide +kernel
theorem dX4_turns_21 : decode cX4_turns 21 = .ok (.iaload, 1) := by decide +kernel
theorem dX4_turns_22 : decode cX4_turns 22 = .ok (.iconst 1, 1) := by decide +kernel
theorem dX4_turns_23 : decode cX4_turns 23 = .ok (.if_icmp .ne 26, 3) := by decide +kernel
theorem dX4_turns_26 : decode cX4_turns 26 = .ok (.iload_n 1, 1) := by decide +kernel
theorem dX4_turns_27 : decode cX4_turns 27 = .ok (.invokestatic 99, 3) := by decide +kernel
theorem dX4_turns_30 : decode cX4_turns 30 = .ok (.iconst (-1), 1) := by decide +kernel
theorem dX4_turns_31 : decode cX4_turns 31 = .ok (.if_icmp .eq 14, 3) := by decide +kernel
theorem dX4_turns_34 : decode cX4_turns 34 = .ok (.aload_n 0, 1) := by decide +kernel
theorem dX4_turns_35 : decode cX4_turns 35 = .ok (.iload_n 1, 1) := by decide +kernel
theorem dX4_turns_36 : decode cX4_turns 36 = .ok (.invokestatic 99, 3) := by decide +kernel
theorem dX4_turns_39 : decode cX4_turns 39 = .ok (.invokevirtual 93, 3) := by decide +kernel
theorem dX4_turns_42 : decode cX4_turns 42 = .ok (.ifCond .eq 7, 3) := by decide +kernel
theorem dX4_turns_45 : decode cX4_turns 45 = .ok (.iconst 1, 1) := by decide +kernel
theorem dX4_turns_46 : decode cX4_turns 46 = .ok (.goto 4, 3) := by decide +kernel
theorem dX4_turns_49 : decode cX4_turns 49 = .ok (.iconst 0, 1) := by decide +kernel
theorem dX4_turns_50 : decode cX4_turns 50 = .ok (.istore_n 2, 1) := by decide +kernel
theorem dX4_turns_51 : decode cX4_turns 51 = .ok (.aload_n 0, 1) := by decide +kernel
theorem dX4_turns_52 : decode cX4_turns 52 = .ok (.getfield 39, 3) := by decide +kernel
theorem dX4_turns_55 : decode cX4_turns 55 = .ok (.iload_n 1, 1) := by decide +kernel
theorem dX4_turns_56 : decode cX4_turns 56 = .ok (.aload_n 0, 1) := by decide +kernel
theorem dX4_turns_57 : decode cX4_turns 57 = .ok (.iload_n 1, 1) := by decide +kernel
theorem dX4_turns_58 : decode cX4_turns 58 = .ok (.invokevirtual 93, 3) := by decide +kernel
theorem dX4_turns_61 : decode cX4_turns 61 = .ok (.ifCond .ne 7, 3) := by decide +kernel
theorem dX4_turns_64 : decode cX4_turns 64 = .ok (.iconst 2, 1) := by decide +kernel
theorem dX4_turns_65 : decode cX4_turns 65 = .ok (.goto 12, 3) := by decide +kernel
theorem dX4_turns_68 : decode cX4_turns 68 = .ok (.iload_n 2, 1) := by decide +kernel
theorem dX4_turns_69 : decode cX4_turns 69 = .ok (.ifCond .eq 7, 3) := by decide +kernel
theorem dX4_turns_72 : decode cX4_turns 72 = .ok (.iconst 1, 1) := by decide +kernel
theorem dX4_turns_73 : decode cX4_turns 73 = .ok (.goto 4, 3) := by decide +kernel
theorem dX4_turns_76 : decode cX4_turns 76 = .ok (.iconst 3, 1) := by decide +kernel
theorem dX4_turns_77 : decode cX4_turns 77 = .ok (.iastore, 1) := by decide +kernel
theorem dX4_turns_78 : decode cX4_turns 78 = .ok (.aload_n 0, 1) := by decide +kernel
theorem dX4_turns_79 : decode cX4_turns 79 = .ok (.dup, 1) := by decide +kernel
theorem dX4_turns_80 : decode cX4_turns 80 = .ok (.getfield 84, 3) := by decide +kernel
theorem dX4_turns_83 : decode cX4_turns 83 = .ok (.iconst 1, 1) := by decide +kernel
theorem dX4_turns_84 : decode cX4_turns 84 = .ok (.iadd, 1) := by decide +kernel
theorem dX4_turns_85 : decode cX4_turns 85 = .ok (.putfield 84, 3) := by decide +kernel
theorem dX4_turns_88 : decode cX4_turns 88 = .ok (.aload_n 0, 1) := by decide +kernel
theorem dX4_turns_89 : decode cX4_turns 89 = .ok (.invokevirtual 102, 3) := by decide +kernel
theorem dX4_turns_92 : decode cX4_turns 92 = .ok (.istore_n 3, 1) := by decide +kernel
theorem dX4_turns_93 : decode cX4_turns 93 = .ok (.aload_n 0, 1) := by decide +kernel
theorem dX4_turns_94 : decode cX4_turns 94 = .ok (.aload_n 0, 1) := by decide +kernel
theorem dX4_turns_95 : decode cX4_turns 95 = .ok (.getfield 65, 3) := by decide +kernel
theorem dX4_turns_98 : decode cX4_turns 98 = .ok (.iload_n 3, 1) := by decide +kernel
theorem dX4_turns_99 : decode cX4_turns 99 = .ok (.bipush 6, 2) := by decide +kernel
theorem dX4_turns_101 : decode cX4_turns 101 = .ok (.if_icmp .lt 8, 3) := by decide +kernel
theorem dX4_turns_104 : decode cX4_turns 104 = .ok (.bipush 9, 2) := by decide +kernel
theorem dX4_turns_106 : decode cX4_turns 106 = .ok (.goto 15, 3) := by decide +kernel
theorem dX4_turns_109 : decode cX4_turns 109 = .ok (.iload_n 3, 1) := by decide +kernel
theorem dX4_turns_110 : decode cX4_turns 110 = .ok (.iconst 1, 1) := by decide +kernel
theorem dX4_turns_111 : decode cX4_turns 111 = .ok (.if_icmp .gt 8, 3) := by decide +kernel
theorem dX4_turns_114 : decode cX4_turns 114 = .ok (.bipush 11, 2) := by decide +kernel
theorem dX4_turns_116 : decode cX4_turns 116 = .ok (.goto 5, 3) := by decide +kernel
theorem dX4_turns_119 : decode cX4_turns 119 = .ok (.bipush 10, 2) := by decide +kernel
theorem dX4_turns_121 : decode cX4_turns 121 = .ok (.iadd, 1) := by decide +kernel
theorem dX4_turns_122 : decode cX4_turns 122 = .ok (.putfield 106, 3) := by decide +kernel
theorem dX4_turns_125 : decode cX4_turns 125 = .ok (.return_, 1) := by decide +kernel
set_option maxRecDepth 20000 in
theorem ggX4_passes_X4_drives : GoodIn wsX4_passes wsX4_drives := goodIn_r _ [10, 11, 12, 13, 2, 14, 15, 16, 17, 18, 19, 20, 9, 21, 22, 23, 53, 54, 55, 56, 57, 58, 59, 60, 61, 62, 63, 64, 65, 66, 67, 68, 69, 70, 71, 72, 73, 74] (by decide +kernel) (by decide +kernel)
set_option maxRecDepth 20000 in
theorem gX4_passes_X4_drives : GoodIn wsX4_passes (wsV RX4 109 RX4 yX4_drives wsX4_drives) := goodIn_app (goodIn_of _ (by decide +kernel)) ggX4_passes_X4_drives
set_option maxRecDepth 20000 in
theorem ggX4_passes_X4_asksFor : GoodIn wsX4_passes wsX4_asksFor := goodIn_r _ [27, 22, 28, 4, 29, 30, 53, 54, 55, 56, 57, 58, 59, 60, 61, 62, 63, 64, 65, 66, 67, 68, 69, 70, 71, 72, 73, 74] (by decide +kernel) (by decide +kernel)
set_option maxRecDepth 20000 in
theorem gX4_passes_X4_asksFor : GoodIn wsX4_passes (wsV RX4 112 RX4 yX4_asksFor wsX4_asksFor) := goodIn_app (goodIn_of _ (by decide +kernel)) ggX4_passes_X4_asksFor
set_option maxRecDepth 20000 in
theorem ggX4_passes_X4_whole : GoodIn wsX4_passes wsX4_whole := goodIn_r _ [34, 22, 53, 54, 55, 56, 57, 58, 59, 60, 61, 62, 63, 64, 65, 66, 67, 68, 69, 70, 71, 72, 73, 74] (by decide +kernel) (by decide +kernel)
set_option maxRecDepth 20000 in
theorem gX4_passes_X4_whole : GoodIn wsX4_passes (wsV RX4 93 RX4 yX4_whole wsX4_whole) := goodIn_app (goodIn_of _ (by decide +kernel)) ggX4_passes_X4_whole
set_option maxRecDepth 20000 in
theorem ggX4_passes_X4_turns : GoodIn wsX4_passes wsX4_turns := goodIn_r _ [38, 4, 39, 2, 5, 40, 41, 9, 42, 43, 44, 45, 46, 47, 48, 31, 32, 33, 34, 22, 49, 50, 51, 52, 53, 54, 55, 56, 57, 58, 59, 60, 61, 62, 63, 64, 65, 66, 67, 68, 69, 70, 71, 72, 73, 74] (by decide +kernel) (by decide +kernel)
set_option maxRecDepth 20000 in
theorem gX4_passes_X4_turns : GoodIn wsX4_passes (wsV RX4 121 RX4 yX4_turns wsX4_turns) := goodIn_app (goodIn_of _ (by decide +kernel)) ggX4_passes_X4_turns
theorem dX4_passes_0 : decode cX4_passes 0 = .ok (.aload_n 0, 1) := by decide +kernel
theorem dX4_passes_1 : decode cX4_passes 1 = .ok (.invokevirtual 109, 3) := by decide +kernel
theorem dX4_passes_4 : decode cX4_passes 4 = .ok (.aload_n 0, 1) := by decide +kernel
theorem dX4_passes_5 : decode cX4_passes 5 = .ok (.invokevirtual 112, 3) := by decide +kernel
theorem dX4_passes_8 : decode cX4_passes 8 = .ok (.aload_n 0, 1) := by decide +kernel
theorem dX4_passes_9 : decode cX4_passes 9 = .ok (.getfield 115, 3) := by decide +kernel
theorem dX4_passes_12 : decode cX4_passes 12 = .ok (.ifCond .ne 47, 3) := by decide +kernel
theorem dX4_passes_15 : decode cX4_passes 15 = .ok (.aload_n 0, 1) := by decide +kernel
theorem dX4_passes_16 : decode cX4_passes 16 = .ok (.iconst 0, 1) := by decide +kernel
theorem dX4_passes_17 : decode cX4_passes 17 = .ok (.invokevirtual 93, 3) := by decide +kernel
theorem dX4_passes_20 : decode cX4_passes 20 = .ok (.ifCond .eq 39, 3) := by decide +kernel
theorem dX4_passes_23 : decode cX4_passes 23 = .ok (.aload_n 0, 1) := by decide +kernel
theorem dX4_passes_24 : decode cX4_passes 24 = .ok (.iconst 1, 1) := by decide +kernel
theorem dX4_passes_25 : decode cX4_passes 25 = .ok (.invokevirtual 93, 3) := by decide +kernel
theorem dX4_passes_28 : decode cX4_passes 28 = .ok (.ifCond .eq 31, 3) := by decide +kernel
theorem dX4_passes_31 : decode cX4_passes 31 = .ok (.aload_n 0, 1) := by decide +kernel
theorem dX4_passes_32 : decode cX4_passes 32 = .ok (.iconst 2, 1) := by decide +kernel
theorem dX4_passes_33 : decode cX4_passes 33 = .ok (.invokevirtual 93, 3) := by decide +kernel
theorem dX4_passes_36 : decode cX4_passes 36 = .ok (.ifCond .eq 23, 3) := by decide +kernel
theorem dX4_passes_39 : decode cX4_passes 39 = .ok (.aload_n 0, 1) := by decide +kernel
theorem dX4_passes_40 : decode cX4_passes 40 = .ok (.iconst 1, 1) := by decide +kernel
theorem dX4_passes_41 : decode cX4_passes 41 = .ok (.putfield 115, 3) := by decide +kernel
theorem dX4_passes_44 : decode cX4_passes 44 = .ok (.aload_n 0, 1) := by decide +kernel
theorem dX4_passes_45 : decode cX4_passes 45 = .ok (.aload_n 0, 1) := by decide +kernel
theorem dX4_passes_46 : decode cX4_passes 46 = .ok (.getfield 65, 3) := by decide +kernel
theorem dX4_passes_49 : decode cX4_passes 49 = .ok (.putfield 118, 3) := by decide +kernel
theorem dX4_passes_52 : decode cX4_passes 52 = .ok (.aload_n 0, 1) := by decide +kernel
theorem dX4_passes_53 : decode cX4_passes 53 = .ok (.invokevirtual 121, 3) := by decide +kernel
theorem dX4_passes_56 : decode cX4_passes 56 = .ok (.goto 34, 3) := by decide +kernel
theorem dX4_passes_59 : decode cX4_passes 59 = .ok (.aload_n 0, 1) := by decide +kernel
theorem dX4_passes_60 : decode cX4_passes 60 = .ok (.getfield 115, 3) := by decide +kernel
theorem dX4_passes_63 : decode cX4_passes 63 = .ok (.ifCond .eq 27, 3) := by decide +kernel
theorem dX4_passes_66 : decode cX4_passes 66 = .ok (.aload_n 0, 1) := by decide +kernel
theorem dX4_passes_67 : decode cX4_passes 67 = .ok (.getfield 84, 3) := by decide +kernel
theorem dX4_passes_70 : decode cX4_passes 70 = .ok (.bipush 100, 2) := by decide +kernel
theorem dX4_passes_72 : decode cX4_passes 72 = .ok (.if_icmp .ge 18, 3) := by decide +kernel
theorem dX4_passes_75 : decode cX4_passes 75 = .ok (.aload_n 0, 1) := by decide +kernel
theorem dX4_passes_76 : decode cX4_passes 76 = .ok (.getfield 106, 3) := by decide +kernel
theorem dX4_passes_79 : decode cX4_passes 79 = .ok (.aload_n 0, 1) := by decide +kernel
theorem dX4_passes_80 : decode cX4_passes 80 = .ok (.getfield 65, 3) := by decide +kernel
theorem dX4_passes_83 : decode cX4_passes 83 = .ok (.if_icmp .ne 7, 3) := by decide +kernel
theorem dX4_passes_86 : decode cX4_passes 86 = .ok (.aload_n 0, 1) := by decide +kernel
theorem dX4_passes_87 : decode cX4_passes 87 = .ok (.invokevirtual 121, 3) := by decide +kernel
theorem dX4_passes_90 : decode cX4_passes 90 = .ok (.aload_n 0, 1) := by decide +kernel
theorem dX4_passes_91 : decode cX4_passes 91 = .ok (.dup, 1) := by decide +kernel
theorem dX4_passes_92 : decode cX4_passes 92 = .ok (.getfield 65, 3) := by decide +kernel
theorem dX4_passes_95 : decode cX4_passes 95 = .ok (.iconst 1, 1) := by decide +kernel
theorem dX4_passes_96 : decode cX4_passes 96 = .ok (.iadd, 1) := by decide +kernel
theorem dX4_passes_97 : decode cX4_passes 97 = .ok (.putfield 65, 3) := by decide +kernel
theorem dX4_passes_100 : decode cX4_passes 100 = .ok (.return_, 1) := by decide +kernel
set_option maxRecDepth 20000 in
theorem ggX4_advance_X4_in : GoodIn wsX4_advance wsX4_in := goodIn_r _ [5] (by decide +kernel) (by decide +kernel)
set_option maxRecDepth 20000 in
theorem gX4_advance_X4_in : GoodIn wsX4_advance (va_wsS RX4 48 yX4_in wsX4_in) := goodIn_app (goodIn_of _ (by decide +kernel)) ggX4_advance_X4_in
set_option maxRecDepth 20000 in
theorem ggX4_advance_X4_asks : GoodIn wsX4_advance wsX4_asks := goodIn_r _ [9, 10, 69, 70, 71, 72, 73, 74, 75, 76, 77, 78, 79, 80, 81, 82, 83, 84, 85, 86, 87, 88, 89, 90] (by decide +kernel) (by decide +kernel)
set_option maxRecDepth 20000 in
theorem gX4_advance_X4_asks : GoodIn wsX4_advance (wsV RX4 52 RX4 yX4_asks wsX4_asks) := goodIn_app (goodIn_of _ (by decide +kernel)) ggX4_advance_X4_asks
set_option maxRecDepth 20000 in
theorem ggX4_advance_X4_fails : GoodIn wsX4_advance wsX4_fails := goodIn_r _ [14, 10, 69, 70, 71, 72, 73, 74, 75, 76, 77, 78, 79, 80, 81, 82, 83, 84, 85, 86, 87, 88, 89, 90] (by decide +kernel) (by decide +kernel)
set_option maxRecDepth 20000 in
theorem gX4_advance_X4_fails : GoodIn wsX4_advance (wsV RX4 72 RX4 yX4_fails wsX4_fails) := goodIn_app (goodIn_of _ (by decide +kernel)) ggX4_advance_X4_fails
set_option maxRecDepth 20000 in
theorem ggX4_advance_X4_passes : GoodIn wsX4_advance wsX4_passes := goodIn_r _ [18, 19, 1, 20, 21, 22, 23, 24, 25, 4, 26, 27, 28, 29, 30, 31, 32, 33, 34, 35, 36, 37, 38, 39, 40, 41, 42, 43, 44, 45, 46, 47, 48, 49, 50, 51, 52, 53, 54, 55, 56, 57, 58, 59, 60, 61, 62, 63, 64, 65, 66, 67, 68, 69, 70, 71, 72, 73, 74, 75, 76, 77, 78, 79, 80, 81, 82, 83, 84, 85, 86, 87, 88, 89, 90] (by decide +kernel) (by decide +kernel)
set_option maxRecDepth 20000 in
theorem gX4_advance_X4_passes : GoodIn wsX4_advance (wsV RX4 124 RX4 yX4_passes wsX4_passes) := goodIn_app (goodIn_of _ (by decide +kernel)) ggX4_advance_X4_passes
theorem dX4_advance_0 : decode cX4_advance 0 = .ok (.aload_n 0, 1) := by decide +kernel
theorem dX4_advance_1 : decode cX4_advance 1 = .ok (.iload_n 1, 1) := by decide +kernel
theorem dX4_advance_2 : decode cX4_advance 2 = .ok (.iconst 1, 1) := by decide +kernel
theorem dX4_advance_3 : decode cX4_advance 3 = .ok (.bipush 100, 2) := by decide +kernel
theorem dX4_advance_5 : decode cX4_advance 5 = .ok (.invokestatic 48, 3) := by decide +kernel
theorem dX4_advance_8 : decode cX4_advance 8 = .ok (.invokevirtual 52, 3) := by decide +kernel
theorem dX4_advance_11 : decode cX4_advance 11 = .ok (.ifCond .ne 5, 3) := by decide +kernel
theorem dX4_advance_14 : decode cX4_advance 14 = .ok (.iconst 0, 1) := by decide +kernel
theorem dX4_advance_15 : decode cX4_advance 15 = .ok (.ireturn, 1) := by decide +kernel
theorem dX4_advance_16 : decode cX4_advance 16 = .ok (.aload_n 0, 1) := by decide +kernel
theorem dX4_advance_17 : decode cX4_advance 17 = .ok (.getfield 65, 3) := by decide +kernel
theorem dX4_advance_20 : decode cX4_advance 20 = .ok (.iload_n 1, 1) := by decide +kernel
theorem dX4_advance_21 : decode cX4_advance 21 = .ok (.iadd, 1) := by decide +kernel
theorem dX4_advance_22 : decode cX4_advance 22 = .ok (.sipush 20000, 3) := by decide +kernel
theorem dX4_advance_25 : decode cX4_advance 25 = .ok (.if_icmp .le 9, 3) := by decide +kernel
theorem dX4_advance_28 : decode cX4_advance 28 = .ok (.aload_n 0, 1) := by decide +kernel
theorem dX4_advance_29 : decode cX4_advance 29 = .ok (.iconst 2, 1) := by decide +kernel
theorem dX4_advance_30 : decode cX4_advance 30 = .ok (.invokevirtual 72, 3) := by decide +kernel
theorem dX4_advance_33 : decode cX4_advance 33 = .ok (.ireturn, 1) := by decide +kernel
theorem dX4_advance_34 : decode cX4_advance 34 = .ok (.iconst 0, 1) := by decide +kernel
theorem dX4_advance_35 : decode cX4_advance 35 = .ok (.istore_n 2, 1) := by decide +kernel
theorem dX4_advance_36 : decode cX4_advance 36 = .ok (.iload_n 2, 1) := by decide +kernel
theorem dX4_advance_37 : decode cX4_advance 37 = .ok (.iload_n 1, 1) := by decide +kernel
theorem dX4_advance_38 : decode cX4_advance 38 = .ok (.if_icmp .ge 13, 3) := by decide +kernel
theorem dX4_advance_41 : decode cX4_advance 41 = .ok (.aload_n 0, 1) := by decide +kernel
theorem dX4_advance_42 : decode cX4_advance 42 = .ok (.invokevirtual 124, 3) := by decide +kernel
theorem dX4_advance_45 : decode cX4_advance 45 = .ok (.iinc 2 1, 3) := by decide +kernel
theorem dX4_advance_48 : decode cX4_advance 48 = .ok (.goto (-12), 3) := by decide +kernel
theorem dX4_advance_51 : decode cX4_advance 51 = .ok (.aload_n 0, 1) := by decide +kernel
theorem dX4_advance_52 : decode cX4_advance 52 = .ok (.getfield 65, 3) := by decide +kernel
theorem dX4_advance_55 : decode cX4_advance 55 = .ok (.ireturn, 1) := by decide +kernel
theorem dX4_reset_0 : decode cX4_reset 0 = .ok (.aload_n 0, 1) := by decide +kernel
theorem dX4_reset_1 : decode cX4_reset 1 = .ok (.iconst 0, 1) := by decide +kernel
theorem dX4_reset_2 : decode cX4_reset 2 = .ok (.putfield 45, 3) := by decide +kernel
theorem dX4_reset_5 : decode cX4_reset 5 = .ok (.aload_n 0, 1) := by decide +kernel
theorem dX4_reset_6 : decode cX4_reset 6 = .ok (.getfield 56, 3) := by decide +kernel
theorem dX4_reset_9 : decode cX4_reset 9 = .ok (.istore_n 1, 1) := by decide +kernel
theorem dX4_reset_10 : decode cX4_reset 10 = .ok (.aload_n 0, 1) := by decide +kernel
theorem dX4_reset_11 : decode cX4_reset 11 = .ok (.dup, 1) := by decide +kernel
theorem dX4_reset_12 : decode cX4_reset 12 = .ok (.getfield 59, 3) := by decide +kernel
theorem dX4_reset_15 : decode cX4_reset 15 = .ok (.iload_n 1, 1) := by decide +kernel
theorem dX4_reset_16 : decode cX4_reset 16 = .ok (.iadd, 1) := by decide +kernel
theorem dX4_reset_17 : decode cX4_reset 17 = .ok (.putfield 59, 3) := by decide +kernel
theorem dX4_reset_20 : decode cX4_reset 20 = .ok (.aload_n 0, 1) := by decide +kernel
theorem dX4_reset_21 : decode cX4_reset 21 = .ok (.iconst 0, 1) := by decide +kernel
theorem dX4_reset_22 : decode cX4_reset 22 = .ok (.putfield 56, 3) := by decide +kernel
theorem dX4_reset_25 : decode cX4_reset 25 = .ok (.aload_n 0, 1) := by decide +kernel
theorem dX4_reset_26 : decode cX4_reset 26 = .ok (.iconst 0, 1) := by decide +kernel
theorem dX4_reset_27 : decode cX4_reset 27 = .ok (.putfield 76, 3) := by decide +kernel
theorem dX4_reset_30 : decode cX4_reset 30 = .ok (.iload_n 1, 1) := by decide +kernel
theorem dX4_reset_31 : decode cX4_reset 31 = .ok (.ireturn, 1) := by decide +kernel
theorem dX4_tick_0 : decode cX4_tick 0 = .ok (.aload_n 0, 1) := by decide +kernel
theorem dX4_tick_1 : decode cX4_tick 1 = .ok (.iconst 0, 1) := by decide +kernel
theorem dX4_tick_2 : decode cX4_tick 2 = .ok (.putfield 45, 3) := by decide +kernel
theorem dX4_tick_5 : decode cX4_tick 5 = .ok (.aload_n 0, 1) := by decide +kernel
theorem dX4_tick_6 : decode cX4_tick 6 = .ok (.getfield 65, 3) := by decide +kernel
theorem dX4_tick_9 : decode cX4_tick 9 = .ok (.ireturn, 1) := by decide +kernel
theorem dX4_waiting_0 : decode cX4_waiting 0 = .ok (.aload_n 0, 1) := by decide +kernel
theorem dX4_waiting_1 : decode cX4_waiting 1 = .ok (.iconst 0, 1) := by decide +kernel
theorem dX4_waiting_2 : decode cX4_waiting 2 = .ok (.putfield 45, 3) := by decide +kernel
theorem dX4_waiting_5 : decode cX4_waiting 5 = .ok (.aload_n 0, 1) := by decide +kernel
theorem dX4_waiting_6 : decode cX4_waiting 6 = .ok (.getfield 56, 3) := by decide +kernel
theorem dX4_waiting_9 : decode cX4_waiting 9 = .ok (.ireturn, 1) := by decide +kernel
theorem dX4_lost_0 : decode cX4_lost 0 = .ok (.aload_n 0, 1) := by decide +kernel
theorem dX4_lost_1 : decode cX4_lost 1 = .ok (.iconst 0, 1) := by decide +kernel
theorem dX4_lost_2 : decode cX4_lost 2 = .ok (.putfield 45, 3) := by decide +kernel
theorem dX4_lost_5 : decode cX4_lost 5 = .ok (.aload_n 0, 1) := by decide +kernel
theorem dX4_lost_6 : decode cX4_lost 6 = .ok (.getfield 59, 3) := by decide +kernel
theorem dX4_lost_9 : decode cX4_lost 9 = .ok (.ireturn, 1) := by decide +kernel
theorem dX4_isPolled_0 : decode cX4_isPolled 0 = .ok (.aload_n 0, 1) := by decide +kernel
theorem dX4_isPolled_1 : decode cX4_isPolled 1 = .ok (.iconst 0, 1) := by decide +kernel
theorem dX4_isPolled_2 : decode cX4_isPolled 2 = .ok (.putfield 45, 3) := by decide +kernel
theorem dX4_isPolled_5 : decode cX4_isPolled 5 = .ok (.aload_n 0, 1) := by decide +kernel
theorem dX4_isPolled_6 : decode cX4_isPolled 6 = .ok (.getfield 76, 3) := by decide +kernel
theorem dX4_isPolled_9 : decode cX4_isPolled 9 = .ok (.ireturn, 1) := by decide +kernel
set_option maxRecDepth 20000 in
theorem ggX4_has_X4_in : GoodIn wsX4_has wsX4_in := goodIn_r _ [5] (by decide +kernel) (by decide +kernel)
set_option maxRecDepth 20000 in
theorem gX4_has_X4_in : GoodIn wsX4_has (va_wsS RX4 48 yX4_in wsX4_in) := goodIn_app (goodIn_of _ (by decide +kernel)) ggX4_has_X4_in
set_option maxRecDepth 20000 in
theorem ggX4_has_X4_asks : GoodIn wsX4_has wsX4_asks := goodIn_r _ [9, 10, 11, 12, 13, 14, 15, 16, 17, 18, 19, 20, 21, 22, 23, 24, 25, 26, 27, 28, 29, 30, 31, 32] (by decide +kernel) (by decide +kernel)
set_option maxRecDepth 20000 in
theorem gX4_has_X4_asks : GoodIn wsX4_has (wsV RX4 52 RX4 yX4_asks wsX4_asks) := goodIn_app (goodIn_of _ (by decide +kernel)) ggX4_has_X4_asks
theorem dX4_has_0 : decode cX4_has 0 = .ok (.aload_n 0, 1) := by decide +kernel
theorem dX4_has_1 : decode cX4_has 1 = .ok (.iload_n 1, 1) := by decide +kernel
theorem dX4_has_2 : decode cX4_has 2 = .ok (.iconst 0, 1) := by decide +kernel
theorem dX4_has_3 : decode cX4_has 3 = .ok (.sipush 299, 3) := by decide +kernel
theorem dX4_has_6 : decode cX4_has 6 = .ok (.invokestatic 48, 3) := by decide +kernel
theorem dX4_has_9 : decode cX4_has 9 = .ok (.invokevirtual 52, 3) := by decide +kernel
theorem dX4_has_12 : decode cX4_has 12 = .ok (.ifCond .eq 16, 3) := by decide +kernel
theorem dX4_has_15 : decode cX4_has 15 = .ok (.aload_n 0, 1) := by decide +kernel
theorem dX4_has_16 : decode cX4_has 16 = .ok (.getfield 29, 3) := by decide +kernel
theorem dX4_has_19 : decode cX4_has 19 = .ok (.iload_n 1, 1) := by decide +kernel
theorem dX4_has_20 : decode cX4_has 20 = .ok (.baload, 1) := by decide +kernel
theorem dX4_has_21 : decode cX4_has 21 = .ok (.ifCond .eq 7, 3) := by decide +kernel
theorem dX4_has_24 : decode cX4_has 24 = .ok (.iconst 1, 1) := by decide +kernel
theorem dX4_has_25 : decode cX4_has 25 = .ok (.goto 4, 3) := by decide +kernel
theorem dX4_has_28 : decode cX4_has 28 = .ok (.iconst 0, 1) := by decide +kernel
theorem dX4_has_29 : decode cX4_has 29 = .ok (.ireturn, 1) := by decide +kernel
set_option maxRecDepth 20000 in
theorem ggX4_askedAt_X4_in : GoodIn wsX4_askedAt wsX4_in := goodIn_r _ [6] (by decide +kernel) (by decide +kernel)
set_option maxRecDepth 20000 in
theorem gX4_askedAt_X4_in : GoodIn wsX4_askedAt (va_wsS RX4 48 yX4_in wsX4_in) := goodIn_app (goodIn_of _ (by decide +kernel)) ggX4_askedAt_X4_in
set_option maxRecDepth 20000 in
theorem ggX4_askedAt_X4_asks : GoodIn wsX4_askedAt wsX4_asks := goodIn_r _ [10, 11, 12, 13, 14, 15, 16, 17, 18, 19, 20, 21, 22, 23, 24, 25, 26, 27, 28, 29, 30, 31, 32, 33] (by decide +kernel) (by decide +kernel)
set_option maxRecDepth 20000 in
theorem gX4_askedAt_X4_asks : GoodIn wsX4_askedAt (wsV RX4 52 RX4 yX4_asks wsX4_asks) := goodIn_app (goodIn_of _ (by decide +kernel)) ggX4_askedAt_X4_asks
theorem dX4_askedAt_0 : decode cX4_askedAt 0 = .ok (.aload_n 0, 1) := by decide +kernel
theorem dX4_askedAt_1 : decode cX4_askedAt 1 = .ok (.iload_n 1, 1) := by decide +kernel
theorem dX4_askedAt_2 : decode cX4_askedAt 2 = .ok (.iconst 0, 1) := by decide +kernel
theorem dX4_askedAt_3 : decode cX4_askedAt 3 = .ok (.aload_n 0, 1) := by decide +kernel
theorem dX4_askedAt_4 : decode cX4_askedAt 4 = .ok (.getfield 87, 3) := by decide +kernel
theorem dX4_askedAt_7 : decode cX4_askedAt 7 = .ok (.iconst 1, 1) := by decide +kernel
theorem dX4_askedAt_8 : decode cX4_askedAt 8 = .ok (.isub, 1) := by decide +kernel
theorem dX4_askedAt_9 : decode cX4_askedAt 9 = .ok (.invokestatic 48, 3) := by decide +kernel
theorem dX4_askedAt_12 : decode cX4_askedAt 12 = .ok (.invokevirtual 52, 3) := by decide +kernel
theorem dX4_askedAt_15 : decode cX4_askedAt 15 = .ok (.ifCond .eq 12, 3) := by decide +kernel
theorem dX4_askedAt_18 : decode cX4_askedAt 18 = .ok (.aload_n 0, 1) := by decide +kernel
theorem dX4_askedAt_19 : decode cX4_askedAt 19 = .ok (.getfield 36, 3) := by decide +kernel
theorem dX4_askedAt_22 : decode cX4_askedAt 22 = .ok (.iload_n 1, 1) := by decide +kernel
theorem dX4_askedAt_23 : decode cX4_askedAt 23 = .ok (.iaload, 1) := by decide +kernel
theorem dX4_askedAt_24 : decode cX4_askedAt 24 = .ok (.goto 4, 3) := by decide +kernel
theorem dX4_askedAt_27 : decode cX4_askedAt 27 = .ok (.iconst 0, 1) := by decide +kernel
theorem dX4_askedAt_28 : decode cX4_askedAt 28 = .ok (.ireturn, 1) := by decide +kernel
theorem dX4_asked_0 : decode cX4_asked 0 = .ok (.aload_n 0, 1) := by decide +kernel
theorem dX4_asked_1 : decode cX4_asked 1 = .ok (.iconst 0, 1) := by decide +kernel
theorem dX4_asked_2 : decode cX4_asked 2 = .ok (.putfield 45, 3) := by decide +kernel
theorem dX4_asked_5 : decode cX4_asked 5 = .ok (.aload_n 0, 1) := by decide +kernel
theorem dX4_asked_6 : decode cX4_asked 6 = .ok (.getfield 87, 3) := by decide +kernel
theorem dX4_asked_9 : decode cX4_asked 9 = .ok (.ireturn, 1) := by decide +kernel
theorem dX4_isFrame_0 : decode cX4_isFrame 0 = .ok (.iload_n 0, 1) := by decide +kernel
theorem dX4_isFrame_1 : decode cX4_isFrame 1 = .ok (.ifCond .lt 13, 3) := by decide +kernel
theorem dX4_isFrame_4 : decode cX4_isFrame 4 = .ok (.iload_n 0, 1) := by decide +kernel
theorem dX4_isFrame_5 : decode cX4_isFrame 5 = .ok (.bipush 100, 2) := by decide +kernel
theorem dX4_isFrame_7 : decode cX4_isFrame 7 = .ok (.if_icmp .ge 7, 3) := by decide +kernel
theorem dX4_isFrame_10 : decode cX4_isFrame 10 = .ok (.iconst 1, 1) := by decide +kernel
theorem dX4_isFrame_11 : decode cX4_isFrame 11 = .ok (.goto 4, 3) := by decide +kernel
theorem dX4_isFrame_14 : decode cX4_isFrame 14 = .ok (.iconst 0, 1) := by decide +kernel
theorem dX4_isFrame_15 : decode cX4_isFrame 15 = .ok (.ireturn, 1) := by decide +kernel
set_option maxRecDepth 20000 in
theorem ggX4_kindOf_X4_isFrame : GoodIn wsX4_kindOf wsX4_isFrame := goodIn_r _ [4] (by decide +kernel) (by decide +kernel)
set_option maxRecDepth 20000 in
theorem gX4_kindOf_X4_isFrame : GoodIn wsX4_kindOf (va_wsS RX4 127 yX4_isFrame wsX4_isFrame) := goodIn_app (goodIn_of _ (by decide +kernel)) ggX4_kindOf_X4_isFrame
set_option maxRecDepth 20000 in
theorem ggX4_kindOf_X4_asks : GoodIn wsX4_kindOf wsX4_asks := goodIn_r _ [8, 9, 13, 14, 15, 16, 17, 18, 19, 20, 21, 22, 23, 24, 25, 26, 27, 28, 29, 30, 31, 32, 33, 34] (by decide +kernel) (by decide +kernel)
set_option maxRecDepth 20000 in
theorem gX4_kindOf_X4_asks : GoodIn wsX4_kindOf (wsV RX4 52 RX4 yX4_asks wsX4_asks) := goodIn_app (goodIn_of _ (by decide +kernel)) ggX4_kindOf_X4_asks
set_option maxRecDepth 20000 in
theorem ggX4_kindOf_X4_kind : GoodIn wsX4_kindOf wsX4_kind := goodIn_r _ [12] (by decide +kernel) (by decide +kernel)
set_option maxRecDepth 20000 in
theorem gX4_kindOf_X4_kind : GoodIn wsX4_kindOf (va_wsS RX4 90 yX4_kind wsX4_kind) := goodIn_app (goodIn_of _ (by decide +kernel)) ggX4_kindOf_X4_kind
theorem dX4_kindOf_0 : decode cX4_kindOf 0 = .ok (.aload_n 0, 1) := by decide +kernel
theorem dX4_kindOf_1 : decode cX4_kindOf 1 = .ok (.iload_n 1, 1) := by decide +kernel
theorem dX4_kindOf_2 : decode cX4_kindOf 2 = .ok (.invokestatic 127, 3) := by decide +kernel
theorem dX4_kindOf_5 : decode cX4_kindOf 5 = .ok (.invokevirtual 52, 3) := by decide +kernel
theorem dX4_kindOf_8 : decode cX4_kindOf 8 = .ok (.ifCond .eq 10, 3) := by decide +kernel
theorem dX4_kindOf_11 : decode cX4_kindOf 11 = .ok (.iload_n 1, 1) := by decide +kernel
theorem dX4_kindOf_12 : decode cX4_kindOf 12 = .ok (.invokestatic 90, 3) := by decide +kernel
theorem dX4_kindOf_15 : decode cX4_kindOf 15 = .ok (.goto 4, 3) := by decide +kernel
theorem dX4_kindOf_18 : decode cX4_kindOf 18 = .ok (.iconst 0, 1) := by decide +kernel
theorem dX4_kindOf_19 : decode cX4_kindOf 19 = .ok (.ireturn, 1) := by decide +kernel
set_option maxRecDepth 20000 in
theorem ggX4_need_X4_isFrame : GoodIn wsX4_need wsX4_isFrame := goodIn_r _ [4] (by decide +kernel) (by decide +kernel)
set_option maxRecDepth 20000 in
theorem gX4_need_X4_isFrame : GoodIn wsX4_need (va_wsS RX4 127 yX4_isFrame wsX4_isFrame) := goodIn_app (goodIn_of _ (by decide +kernel)) ggX4_need_X4_isFrame
set_option maxRecDepth 20000 in
theorem ggX4_need_X4_asks : GoodIn wsX4_need wsX4_asks := goodIn_r _ [8, 9, 19, 20, 21, 22, 23, 24, 25, 26, 27, 28, 29, 30, 31, 32, 33, 34, 35, 36, 37, 38, 39, 40] (by decide +kernel) (by decide +kernel)
set_option maxRecDepth 20000 in
theorem gX4_need_X4_asks : GoodIn wsX4_need (wsV RX4 52 RX4 yX4_asks wsX4_asks) := goodIn_app (goodIn_of _ (by decide +kernel)) ggX4_need_X4_asks
set_option maxRecDepth 20000 in
theorem ggX4_need_X4_behind : GoodIn wsX4_need wsX4_behind := goodIn_r _ [12, 13, 14, 3, 15] (by decide +kernel) (by decide +kernel)
set_option maxRecDepth 20000 in
theorem gX4_need_X4_behind : GoodIn wsX4_need (va_wsS RX4 99 yX4_behind wsX4_behind) := goodIn_app (goodIn_of _ (by decide +kernel)) ggX4_need_X4_behind
set_option maxRecDepth 20000 in
theorem ggX4_need_X4_before : GoodIn wsX4_need wsX4_before := goodIn_r _ [18, 13, 14, 3, 15] (by decide +kernel) (by decide +kernel)
set_option maxRecDepth 20000 in
theorem gX4_need_X4_before : GoodIn wsX4_need (va_wsS RX4 96 yX4_before wsX4_before) := goodIn_app (goodIn_of _ (by decide +kernel)) ggX4_need_X4_before
theorem dX4_need_0 : decode cX4_need 0 = .ok (.aload_n 0, 1) := by decide +kernel
theorem dX4_need_1 : decode cX4_need 1 = .ok (.iload_n 1, 1) := by decide +kernel
theorem dX4_need_2 : decode cX4_need 2 = .ok (.invokestatic 127, 3) := by decide +kernel
theorem dX4_need_5 : decode cX4_need 5 = .ok (.invokevirtual 52, 3) := by decide +kernel
theorem dX4_need_8 : decode cX4_need 8 = .ok (.ifCond .ne 7, 3) := by decide +kernel
theorem dX4_need_11 : decode cX4_need 11 = .ok (.iconst 0, 1) := by decide +kernel
theorem dX4_need_12 : decode cX4_need 12 = .ok (.goto 18, 3) := by decide +kernel
theorem dX4_need_15 : decode cX4_need 15 = .ok (.iload_n 2, 1) := by decide +kernel
theorem dX4_need_16 : decode cX4_need 16 = .ok (.ifCond .eq 10, 3) := by decide +kernel
theorem dX4_need_19 : decode cX4_need 19 = .ok (.iload_n 1, 1) := by decide +kernel
theorem dX4_need_20 : decode cX4_need 20 = .ok (.invokestatic 99, 3) := by decide +kernel
theorem dX4_need_23 : decode cX4_need 23 = .ok (.goto 7, 3) := by decide +kernel
theorem dX4_need_26 : decode cX4_need 26 = .ok (.iload_n 1, 1) := by decide +kernel
theorem dX4_need_27 : decode cX4_need 27 = .ok (.invokestatic 96, 3) := by decide +kernel
theorem dX4_need_30 : decode cX4_need 30 = .ok (.ireturn, 1) := by decide +kernel
set_option maxRecDepth 20000 in
theorem ggX4_isWhole_X4_isFrame : GoodIn wsX4_isWhole wsX4_isFrame := goodIn_r _ [4] (by decide +kernel) (by decide +kernel)
set_option maxRecDepth 20000 in
theorem gX4_isWhole_X4_isFrame : GoodIn wsX4_isWhole (va_wsS RX4 127 yX4_isFrame wsX4_isFrame) := goodIn_app (goodIn_of _ (by decide +kernel)) ggX4_isWhole_X4_isFrame
set_option maxRecDepth 20000 in
theorem ggX4_isWhole_X4_asks : GoodIn wsX4_isWhole wsX4_asks := goodIn_r _ [8, 9, 15, 16, 17, 18, 19, 20, 21, 22, 23, 24, 25, 26, 27, 28, 29, 30, 31, 32, 33, 34, 35, 36] (by decide +kernel) (by decide +kernel)
set_option maxRecDepth 20000 in
theorem gX4_isWhole_X4_asks : GoodIn wsX4_isWhole (wsV RX4 52 RX4 yX4_asks wsX4_asks) := goodIn_app (goodIn_of _ (by decide +kernel)) ggX4_isWhole_X4_asks
set_option maxRecDepth 20000 in
theorem ggX4_isWhole_X4_whole : GoodIn wsX4_isWhole wsX4_whole := goodIn_r _ [13, 14, 15, 16, 17, 18, 19, 20, 21, 22, 23, 24, 25, 26, 27, 28, 29, 30, 31, 32, 33, 34, 35, 36] (by decide +kernel) (by decide +kernel)
set_option maxRecDepth 20000 in
theorem gX4_isWhole_X4_whole : GoodIn wsX4_isWhole (wsV RX4 93 RX4 yX4_whole wsX4_whole) := goodIn_app (goodIn_of _ (by decide +kernel)) ggX4_isWhole_X4_whole
theorem dX4_isWhole_0 : decode cX4_isWhole 0 = .ok (.aload_n 0, 1) := by decide +kernel
theorem dX4_isWhole_1 : decode cX4_isWhole 1 = .ok (.iload_n 1, 1) := by decide +kernel
theorem dX4_isWhole_2 : decode cX4_isWhole 2 = .ok (.invokestatic 127, 3) := by decide +kernel
theorem dX4_isWhole_5 : decode cX4_isWhole 5 = .ok (.invokevirtual 52, 3) := by decide +kernel
theorem dX4_isWhole_8 : decode cX4_isWhole 8 = .ok (.ifCond .eq 15, 3) := by decide +kernel
theorem dX4_isWhole_11 : decode cX4_isWhole 11 = .ok (.aload_n 0, 1) := by decide +kernel
theorem dX4_isWhole_12 : decode cX4_isWhole 12 = .ok (.iload_n 1, 1) := by decide +kernel
theorem dX4_isWhole_13 : decode cX4_isWhole 13 = .ok (.invokevirtual 93, 3) := by decide +kernel
theorem dX4_isWhole_16 : decode cX4_isWhole 16 = .ok (.ifCond .eq 7, 3) := by decide +kernel
theorem dX4_isWhole_19 : decode cX4_isWhole 19 = .ok (.iconst 1, 1) := by decide +kernel
theorem dX4_isWhole_20 : decode cX4_isWhole 20 = .ok (.goto 4, 3) := by decide +kernel
theorem dX4_isWhole_23 : decode cX4_isWhole 23 = .ok (.iconst 0, 1) := by decide +kernel
theorem dX4_isWhole_24 : decode cX4_isWhole 24 = .ok (.ireturn, 1) := by decide +kernel
set_option maxRecDepth 20000 in
theorem ggX4_fate_X4_isFrame : GoodIn wsX4_fate wsX4_isFrame := goodIn_r _ [5] (by decide +kernel) (by decide +kernel)
set_option maxRecDepth 20000 in
theorem gX4_fate_X4_isFrame : GoodIn wsX4_fate (va_wsS RX4 127 yX4_isFrame wsX4_isFrame) := goodIn_app (goodIn_of _ (by decide +kernel)) ggX4_fate_X4_isFrame
set_option maxRecDepth 20000 in
theorem ggX4_fate_X4_asks : GoodIn wsX4_fate wsX4_asks := goodIn_r _ [9, 10, 11, 12, 13, 14, 15, 16, 17, 18, 19, 20, 21, 22, 23, 24, 25, 26, 27, 28, 29, 30, 31, 32] (by decide +kernel) (by decide +kernel)
set_option maxRecDepth 20000 in
theorem gX4_fate_X4_asks : GoodIn wsX4_fate (wsV RX4 52 RX4 yX4_asks wsX4_asks) := goodIn_app (goodIn_of _ (by decide +kernel)) ggX4_fate_X4_asks
theorem dX4_fate_0 : decode cX4_fate 0 = .ok (.aload_n 0, 1) := by decide +kernel
theorem dX4_fate_1 : decode cX4_fate 1 = .ok (.iload_n 1, 1) := by decide +kernel
theorem dX4_fate_2 : decode cX4_fate 2 = .ok (.invokestatic 127, 3) := by decide +kernel
theorem dX4_fate_5 : decode cX4_fate 5 = .ok (.invokevirtual 52, 3) := by decide +kernel
theorem dX4_fate_8 : decode cX4_fate 8 = .ok (.ifCond .eq 12, 3) := by decide +kernel
theorem dX4_fate_11 : decode cX4_fate 11 = .ok (.aload_n 0, 1) := by decide +kernel
theorem dX4_fate_12 : decode cX4_fate 12 = .ok (.getfield 39, 3) := by decide +kernel
theorem dX4_fate_15 : decode cX4_fate 15 = .ok (.iload_n 1, 1) := by decide +kernel
theorem dX4_fate_16 : decode cX4_fate 16 = .ok (.iaload, 1) := by decide +kernel
theorem dX4_fate_17 : decode cX4_fate 17 = .ok (.goto 4, 3) := by decide +kernel
theorem dX4_fate_20 : decode cX4_fate 20 = .ok (.iconst 0, 1) := by decide +kernel
theorem dX4_fate_21 : decode cX4_fate 21 = .ok (.ireturn, 1) := by decide +kernel
theorem dX4_next_0 : decode cX4_next 0 = .ok (.aload_n 0, 1) := by decide +kernel
theorem dX4_next_1 : decode cX4_next 1 = .ok (.iconst 0, 1) := by decide +kernel
theorem dX4_next_2 : decode cX4_next 2 = .ok (.putfield 45, 3) := by decide +kernel
theorem dX4_next_5 : decode cX4_next 5 = .ok (.aload_n 0, 1) := by decide +kernel
theorem dX4_next_6 : decode cX4_next 6 = .ok (.getfield 84, 3) := by decide +kernel
theorem dX4_next_9 : decode cX4_next 9 = .ok (.bipush 100, 2) := by decide +kernel
theorem dX4_next_11 : decode cX4_next 11 = .ok (.if_icmp .ge 10, 3) := by decide +kernel
theorem dX4_next_14 : decode cX4_next 14 = .ok (.aload_n 0, 1) := by decide +kernel
theorem dX4_next_15 : decode cX4_next 15 = .ok (.getfield 84, 3) := by decide +kernel
theorem dX4_next_18 : decode cX4_next 18 = .ok (.goto 4, 3) := by decide +kernel
theorem dX4_next_21 : decode cX4_next 21 = .ok (.iconst (-1), 1) := by decide +kernel
theorem dX4_next_22 : decode cX4_next 22 = .ok (.ireturn, 1) := by decide +kernel
theorem dX4_turn_0 : decode cX4_turn 0 = .ok (.aload_n 0, 1) := by decide +kernel
theorem dX4_turn_1 : decode cX4_turn 1 = .ok (.iconst 0, 1) := by decide +kernel
theorem dX4_turn_2 : decode cX4_turn 2 = .ok (.putfield 45, 3) := by decide +kernel
theorem dX4_turn_5 : decode cX4_turn 5 = .ok (.aload_n 0, 1) := by decide +kernel
theorem dX4_turn_6 : decode cX4_turn 6 = .ok (.getfield 115, 3) := by decide +kernel
theorem dX4_turn_9 : decode cX4_turn 9 = .ok (.ifCond .eq 19, 3) := by decide +kernel
theorem dX4_turn_12 : decode cX4_turn 12 = .ok (.aload_n 0, 1) := by decide +kernel
theorem dX4_turn_13 : decode cX4_turn 13 = .ok (.getfield 84, 3) := by decide +kernel
theorem dX4_turn_16 : decode cX4_turn 16 = .ok (.bipush 100, 2) := by decide +kernel
theorem dX4_turn_18 : decode cX4_turn 18 = .ok (.if_icmp .ge 10, 3) := by decide +kernel
theorem dX4_turn_21 : decode cX4_turn 21 = .ok (.aload_n 0, 1) := by decide +kernel
theorem dX4_turn_22 : decode cX4_turn 22 = .ok (.getfield 106, 3) := by decide +kernel
theorem dX4_turn_25 : decode cX4_turn 25 = .ok (.goto 4, 3) := by decide +kernel
theorem dX4_turn_28 : decode cX4_turn 28 = .ok (.iconst (-1), 1) := by decide +kernel
theorem dX4_turn_29 : decode cX4_turn 29 = .ok (.ireturn, 1) := by decide +kernel
set_option maxRecDepth 20000 in
theorem ggX4_fill_X4_fillNow : GoodIn wsX4_fill wsX4_fillNow := goodIn_r _ [6, 7, 8, 9, 10, 5, 11, 12, 13, 14, 15, 16, 17, 18, 19, 20, 21, 22, 23, 24, 25, 26, 27, 28, 29, 30, 31, 32, 33, 34] (by decide +kernel) (by decide +kernel)
set_option maxRecDepth 20000 in
theorem gX4_fill_X4_fillNow : GoodIn wsX4_fill (wsV RX4 102 RX4 yX4_fillNow wsX4_fillNow) := goodIn_app (goodIn_of _ (by decide +kernel)) ggX4_fill_X4_fillNow
theorem dX4_fill_0 : decode cX4_fill 0 = .ok (.aload_n 0, 1) := by decide +kernel
theorem dX4_fill_1 : decode cX4_fill 1 = .ok (.iconst 0, 1) := by decide +kernel
theorem dX4_fill_2 : decode cX4_fill 2 = .ok (.putfield 45, 3) := by decide +kernel
theorem dX4_fill_5 : decode cX4_fill 5 = .ok (.aload_n 0, 1) := by decide +kernel
theorem dX4_fill_6 : decode cX4_fill 6 = .ok (.invokevirtual 102, 3) := by decide +kernel
theorem dX4_fill_9 : decode cX4_fill 9 = .ok (.ireturn, 1) := by decide +kernel
theorem dX4_shown_0 : decode cX4_shown 0 = .ok (.aload_n 0, 1) := by decide +kernel
theorem dX4_shown_1 : decode cX4_shown 1 = .ok (.iconst 0, 1) := by decide +kernel
theorem dX4_shown_2 : decode cX4_shown 2 = .ok (.putfield 45, 3) := by decide +kernel
theorem dX4_shown_5 : decode cX4_shown 5 = .ok (.iconst 0, 1) := by decide +kernel
theorem dX4_shown_6 : decode cX4_shown 6 = .ok (.istore_n 1, 1) := by decide +kernel
theorem dX4_shown_7 : decode cX4_shown 7 = .ok (.iconst 0, 1) := by decide +kernel
theorem dX4_shown_8 : decode cX4_shown 8 = .ok (.istore_n 2, 1) := by decide +kernel
theorem dX4_shown_9 : decode cX4_shown 9 = .ok (.iload_n 2, 1) := by decide +kernel
theorem dX4_shown_10 : decode cX4_shown 10 = .ok (.bipush 100, 2) := by decide +kernel
theorem dX4_shown_12 : decode cX4_shown 12 = .ok (.if_icmp .ge 27, 3) := by decide +kernel
theorem dX4_shown_15 : decode cX4_shown 15 = .ok (.iload_n 1, 1) := by decide +kernel
theorem dX4_shown_16 : decode cX4_shown 16 = .ok (.aload_n 0, 1) := by decide +kernel
theorem dX4_shown_17 : decode cX4_shown 17 = .ok (.getfield 39, 3) := by decide +kernel
theorem dX4_shown_20 : decode cX4_shown 20 = .ok (.iload_n 2, 1) := by decide +kernel
theorem dX4_shown_21 : decode cX4_shown 21 = .ok (.iaload, 1) := by decide +kernel
theorem dX4_shown_22 : decode cX4_shown 22 = .ok (.iconst 1, 1) := by decide +kernel
theorem dX4_shown_23 : decode cX4_shown 23 = .ok (.if_icmp .ne 7, 3) := by decide +kernel
theorem dX4_shown_26 : decode cX4_shown 26 = .ok (.iconst 1, 1) := by decide +kernel
theorem dX4_shown_27 : decode cX4_shown 27 = .ok (.goto 4, 3) := by decide +kernel
theorem dX4_shown_30 : decode cX4_shown 30 = .ok (.iconst 0, 1) := by decide +kernel
theorem dX4_shown_31 : decode cX4_shown 31 = .ok (.iadd, 1) := by decide +kernel
theorem dX4_shown_32 : decode cX4_shown 32 = .ok (.istore_n 1, 1) := by decide +kernel
theorem dX4_shown_33 : decode cX4_shown 33 = .ok (.iinc 2 1, 3) := by decide +kernel
theorem dX4_shown_36 : decode cX4_shown 36 = .ok (.goto (-27), 3) := by decide +kernel
theorem dX4_shown_39 : decode cX4_shown 39 = .ok (.iload_n 1, 1) := by decide +kernel
theorem dX4_shown_40 : decode cX4_shown 40 = .ok (.ireturn, 1) := by decide +kernel
set_option maxRecDepth 20000 in
theorem ggX4_couldBe_X4_whole : GoodIn wsX4_couldBe wsX4_whole := goodIn_r _ [8, 9, 19, 20, 21, 22, 23, 24, 25, 26, 27, 28, 29, 30, 31, 32, 33, 34, 35, 36, 37, 38, 39, 40] (by decide +kernel) (by decide +kernel)
set_option maxRecDepth 20000 in
theorem gX4_couldBe_X4_whole : GoodIn wsX4_couldBe (wsV RX4 93 RX4 yX4_whole wsX4_whole) := goodIn_app (goodIn_of _ (by decide +kernel)) ggX4_couldBe_X4_whole
set_option maxRecDepth 20000 in
theorem ggX4_couldBe_X4_before : GoodIn wsX4_couldBe wsX4_before := goodIn_r _ [12, 13, 14, 7, 15] (by decide +kernel) (by decide +kernel)
set_option maxRecDepth 20000 in
theorem gX4_couldBe_X4_before : GoodIn wsX4_couldBe (va_wsS RX4 96 yX4_before wsX4_before) := goodIn_app (goodIn_of _ (by decide +kernel)) ggX4_couldBe_X4_before
set_option maxRecDepth 20000 in
theorem ggX4_couldBe_X4_behind : GoodIn wsX4_couldBe wsX4_behind := goodIn_r _ [18, 13, 14, 7, 15] (by decide +kernel) (by decide +kernel)
set_option maxRecDepth 20000 in
theorem gX4_couldBe_X4_behind : GoodIn wsX4_couldBe (va_wsS RX4 99 yX4_behind wsX4_behind) := goodIn_app (goodIn_of _ (by decide +kernel)) ggX4_couldBe_X4_behind
theorem dX4_couldBe_0 : decode cX4_couldBe 0 = .ok (.aload_n 0, 1) := by decide +kernel
theorem dX4_couldBe_1 : decode cX4_couldBe 1 = .ok (.iconst 0, 1) := by decide +kernel
theorem dX4_couldBe_2 : decode cX4_couldBe 2 = .ok (.putfield 45, 3) := by decide +kernel
theorem dX4_couldBe_5 : decode cX4_couldBe 5 = .ok (.iconst 0, 1) := by decide +kernel
theorem dX4_couldBe_6 : decode cX4_couldBe 6 = .ok (.istore_n 1, 1) := by decide +kernel
theorem dX4_couldBe_7 : decode cX4_couldBe 7 = .ok (.iconst 0, 1) := by decide +kernel
theorem dX4_couldBe_8 : decode cX4_couldBe 8 = .ok (.istore_n 2, 1) := by decide +kernel
theorem dX4_couldBe_9 : decode cX4_couldBe 9 = .ok (.iload_n 2, 1) := by decide +kernel
theorem dX4_couldBe_10 : decode cX4_couldBe 10 = .ok (.aload_n 0, 1) := by decide +kernel
theorem dX4_couldBe_11 : decode cX4_couldBe 11 = .ok (.getfield 84, 3) := by decide +kernel
theorem dX4_couldBe_14 : decode cX4_couldBe 14 = .ok (.if_icmp .ge 84, 3) := by decide +kernel
theorem dX4_couldBe_17 : decode cX4_couldBe 17 = .ok (.aload_n 0, 1) := by decide +kernel
theorem dX4_couldBe_18 : decode cX4_couldBe 18 = .ok (.getfield 42, 3) := by decide +kernel
theorem dX4_couldBe_21 : decode cX4_couldBe 21 = .ok (.iload_n 2, 1) := by decide +kernel
theorem dX4_couldBe_22 : decode cX4_couldBe 22 = .ok (.aload_n 0, 1) := by decide +kernel
theorem dX4_couldBe_23 : decode cX4_couldBe 23 = .ok (.iload_n 2, 1) := by decide +kernel
theorem dX4_couldBe_24 : decode cX4_couldBe 24 = .ok (.invokevirtual 93, 3) := by decide +kernel
theorem dX4_couldBe_27 : decode cX4_couldBe 27 = .ok (.ifCond .eq 46, 3) := by decide +kernel
theorem dX4_couldBe_30 : decode cX4_couldBe 30 = .ok (.iload_n 2, 1) := by decide +kernel
theorem dX4_couldBe_31 : decode cX4_couldBe 31 = .ok (.invokestatic 96, 3) := by decide +kernel
theorem dX4_couldBe_34 : decode cX4_couldBe 34 = .ok (.iconst (-1), 1) := by decide +kernel
theorem dX4_couldBe_35 : decode cX4_couldBe 35 = .ok (.if_icmp .eq 15, 3) := by decide +kernel
theorem dX4_couldBe_38 : decode cX4_couldBe 38 = .ok (.aload_n 0, 1) := by decide +kernel
theorem dX4_couldBe_39 : decode cX4_couldBe 39 = .ok (.getfield 42, 3) := by decide +kernel
theorem dX4_couldBe_42 : decode cX4_couldBe 42 = .ok (.iload_n 2, 1) := by decide +kernel
theorem dX4_couldBe_43 : decode cX4_couldBe 43 = .ok (.invokestatic 96, 3) := by decide +kernel
theorem dX4_couldBe_46 : decode cX4_couldBe 46 = .ok (.baload, 1) := by decide +kernel
theorem dX4_couldBe_47 : decode cX4_couldBe 47 = .ok (.ifCond .eq 26, 3) := by decide +kernel
theorem dX4_couldBe_50 : decode cX4_couldBe 50 = .ok (.iload_n 2, 1) := by decide +kernel
theorem dX4_couldBe_51 : decode cX4_couldBe 51 = .ok (.invokestatic 99, 3) := by decide +kernel
theorem dX4_couldBe_54 : decode cX4_couldBe 54 = .ok (.iconst (-1), 1) := by decide +kernel
theorem dX4_couldBe_55 : decode cX4_couldBe 55 = .ok (.if_icmp .eq 14, 3) := by decide +kernel
theorem dX4_couldBe_58 : decode cX4_couldBe 58 = .ok (.aload_n 0, 1) := by decide +kernel
theorem dX4_couldBe_59 : decode cX4_couldBe 59 = .ok (.iload_n 2, 1) := by decide +kernel
theorem dX4_couldBe_60 : decode cX4_couldBe 60 = .ok (.invokestatic 99, 3) := by decide +kernel
theorem dX4_couldBe_63 : decode cX4_couldBe 63 = .ok (.invokevirtual 93, 3) := by decide +kernel
theorem dX4_couldBe_66 : decode cX4_couldBe 66 = .ok (.ifCond .eq 7, 3) := by decide +kernel
theorem dX4_couldBe_69 : decode cX4_couldBe 69 = .ok (.iconst 1, 1) := by decide +kernel
theorem dX4_couldBe_70 : decode cX4_couldBe 70 = .ok (.goto 4, 3) := by decide +kernel
theorem dX4_couldBe_73 : decode cX4_couldBe 73 = .ok (.iconst 0, 1) := by decide +kernel
theorem dX4_couldBe_74 : decode cX4_couldBe 74 = .ok (.bastore, 1) := by decide +kernel
theorem dX4_couldBe_75 : decode cX4_couldBe 75 = .ok (.iload_n 1, 1) := by decide +kernel
theorem dX4_couldBe_76 : decode cX4_couldBe 76 = .ok (.aload_n 0, 1) := by decide +kernel
theorem dX4_couldBe_77 : decode cX4_couldBe 77 = .ok (.getfield 42, 3) := by decide +kernel
theorem dX4_couldBe_80 : decode cX4_couldBe 80 = .ok (.iload_n 2, 1) := by decide +kernel
theorem dX4_couldBe_81 : decode cX4_couldBe 81 = .ok (.baload, 1) := by decide +kernel
theorem dX4_couldBe_82 : decode cX4_couldBe 82 = .ok (.ifCond .eq 7, 3) := by decide +kernel
theorem dX4_couldBe_85 : decode cX4_couldBe 85 = .ok (.iconst 1, 1) := by decide +kernel
theorem dX4_couldBe_86 : decode cX4_couldBe 86 = .ok (.goto 4, 3) := by decide +kernel
theorem dX4_couldBe_89 : decode cX4_couldBe 89 = .ok (.iconst 0, 1) := by decide +kernel
theorem dX4_couldBe_90 : decode cX4_couldBe 90 = .ok (.iadd, 1) := by decide +kernel
theorem dX4_couldBe_91 : decode cX4_couldBe 91 = .ok (.istore_n 1, 1) := by decide +kernel
theorem dX4_couldBe_92 : decode cX4_couldBe 92 = .ok (.iinc 2 1, 3) := by decide +kernel
theorem dX4_couldBe_95 : decode cX4_couldBe 95 = .ok (.goto (-86), 3) := by decide +kernel
theorem dX4_couldBe_98 : decode cX4_couldBe 98 = .ok (.iload_n 1, 1) := by decide +kernel
theorem dX4_couldBe_99 : decode cX4_couldBe 99 = .ok (.ireturn, 1) := by decide +kernel
theorem dX4_gap_0 : decode cX4_gap 0 = .ok (.aload_n 0, 1) := by decide +kernel
theorem dX4_gap_1 : decode cX4_gap 1 = .ok (.iconst 0, 1) := by decide +kernel
theorem dX4_gap_2 : decode cX4_gap 2 = .ok (.putfield 45, 3) := by decide +kernel
theorem dX4_gap_5 : decode cX4_gap 5 = .ok (.aload_n 0, 1) := by decide +kernel
theorem dX4_gap_6 : decode cX4_gap 6 = .ok (.getfield 115, 3) := by decide +kernel
theorem dX4_gap_9 : decode cX4_gap 9 = .ok (.ifCond .eq 32, 3) := by decide +kernel
theorem dX4_gap_12 : decode cX4_gap 12 = .ok (.aload_n 0, 1) := by decide +kernel
theorem dX4_gap_13 : decode cX4_gap 13 = .ok (.getfield 84, 3) := by decide +kernel
theorem dX4_gap_16 : decode cX4_gap 16 = .ok (.bipush 100, 2) := by decide +kernel
theorem dX4_gap_18 : decode cX4_gap 18 = .ok (.if_icmp .ge 23, 3) := by decide +kernel
theorem dX4_gap_21 : decode cX4_gap 21 = .ok (.aload_n 0, 1) := by decide +kernel
theorem dX4_gap_22 : decode cX4_gap 22 = .ok (.getfield 106, 3) := by decide +kernel
theorem dX4_gap_25 : decode cX4_gap 25 = .ok (.aload_n 0, 1) := by decide +kernel
theorem dX4_gap_26 : decode cX4_gap 26 = .ok (.getfield 118, 3) := by decide +kernel
theorem dX4_gap_29 : decode cX4_gap 29 = .ok (.isub, 1) := by decide +kernel
theorem dX4_gap_30 : decode cX4_gap 30 = .ok (.bipush 10, 2) := by decide +kernel
theorem dX4_gap_32 : decode cX4_gap 32 = .ok (.aload_n 0, 1) := by decide +kernel
theorem dX4_gap_33 : decode cX4_gap 33 = .ok (.getfield 84, 3) := by decide +kernel
theorem dX4_gap_36 : decode cX4_gap 36 = .ok (.imul, 1) := by decide +kernel
theorem dX4_gap_37 : decode cX4_gap 37 = .ok (.isub, 1) := by decide +kernel
theorem dX4_gap_38 : decode cX4_gap 38 = .ok (.goto 4, 3) := by decide +kernel
theorem dX4_gap_41 : decode cX4_gap 41 = .ok (.iconst 0, 1) := by decide +kernel
theorem dX4_gap_42 : decode cX4_gap 42 = .ok (.ireturn, 1) := by decide +kernel
theorem dJ9_max_7cf53_0 : decode cJ9_max_7cf53 0 = .ok (.iload_n 0, 1) := by decide +kernel
theorem dJ9_max_7cf53_1 : decode cJ9_max_7cf53 1 = .ok (.iload_n 1, 1) := by decide +kernel
theorem dJ9_max_7cf53_2 : decode cJ9_max_7cf53 2 = .ok (.if_icmp .lt 7, 3) := by decide +kernel
theorem dJ9_max_7cf53_5 : decode cJ9_max_7cf53 5 = .ok (.iload_n 0, 1) := by decide +kernel
theorem dJ9_max_7cf53_6 : decode cJ9_max_7cf53 6 = .ok (.goto 4, 3) := by decide +kernel
theorem dJ9_max_7cf53_9 : decode cJ9_max_7cf53 9 = .ok (.iload_n 1, 1) := by decide +kernel
theorem dJ9_max_7cf53_10 : decode cJ9_max_7cf53 10 = .ok (.ireturn, 1) := by decide +kernel
theorem dJ9_min_7cf53_0 : decode cJ9_min_7cf53 0 = .ok (.iload_n 0, 1) := by decide +kernel
theorem dJ9_min_7cf53_1 : decode cJ9_min_7cf53 1 = .ok (.iload_n 1, 1) := by decide +kernel
theorem dJ9_min_7cf53_2 : decode cJ9_min_7cf53 2 = .ok (.if_icmp .gt 7, 3) := by decide +kernel
theorem dJ9_min_7cf53_5 : decode cJ9_min_7cf53 5 = .ok (.iload_n 0, 1) := by decide +kernel
theorem dJ9_min_7cf53_6 : decode cJ9_min_7cf53 6 = .ok (.goto 4, 3) := by decide +kernel
theorem dJ9_min_7cf53_9 : decode cJ9_min_7cf53 9 = .ok (.iload_n 1, 1) := by decide +kernel
theorem dJ9_min_7cf53_10 : decode cJ9_min_7cf53 10 = .ok (.ireturn, 1) := by decide +kernel
set_option maxRecDepth 20000 in
theorem ggL_set_X3_set : GoodIn wsL_set wsX3_set := goodIn_ca (goodIn_r _ [6, 7, 8, 9, 10, 11, 5, 12, 13, 14, 15, 16, 17, 18, 19, 20, 21, 22, 23, 24, 25] (by decide +kernel) (by decide +kernel)) (goodIn_sub (fun _ h => List.mem_cons_of_mem _ (List.mem_append_right _ h)) (by decide +kernel))
set_option maxRecDepth 20000 in
theorem gL_set_X3_set : GoodIn wsL_set (wsV RL 7 RX3 yX3_set wsX3_set) := goodIn_app (goodIn_of _ (by decide +kernel)) ggL_set_X3_set
theorem dL_set_0 : decode cL_set 0 = .ok (.aload_n 0, 1) := by decide +kernel
theorem dL_set_1 : decode cL_set 1 = .ok (.iload_n 1, 1) := by decide +kernel
theorem dL_set_2 : decode cL_set 2 = .ok (.iload_n 2, 1) := by decide +kernel
theorem dL_set_3 : decode cL_set 3 = .ok (.iload_n 3, 1) := by decide +kernel
theorem dL_set_4 : decode cL_set 4 = .ok (.iload 4, 2) := by decide +kernel
theorem dL_set_6 : decode cL_set 6 = .ok (.invokevirtual 7, 3) := by decide +kernel
theorem dL_set_9 : decode cL_set 9 = .ok (.goto 7, 3) := by decide +kernel
theorem dL_set_12 : decode cL_set 12 = .ok (.astore 5, 2) := by decide +kernel
theorem dL_set_14 : decode cL_set 14 = .ok (.iconst 1, 1) := by decide +kernel
theorem dL_set_15 : decode cL_set 15 = .ok (.ireturn, 1) := by decide +kernel
theorem dL_set_16 : decode cL_set 16 = .ok (.iconst 0, 1) := by decide +kernel
theorem dL_set_17 : decode cL_set 17 = .ok (.ireturn, 1) := by decide +kernel
set_option maxRecDepth 20000 in
theorem ggL_arrive_X3_arrive : GoodIn wsL_arrive wsX3_arrive := goodIn_ca (goodIn_r _ [6, 7, 8, 9, 10, 11, 12, 5, 13, 14, 15, 16, 17, 18, 19, 20, 21, 22, 23, 24, 25, 26, 27, 28, 29, 30, 31, 32, 33, 34, 35, 36] (by decide +kernel) (by decide +kernel)) (goodIn_sub (fun _ h => List.mem_cons_of_mem _ (List.mem_append_right _ h)) (by decide +kernel))
set_option maxRecDepth 20000 in
theorem gL_arrive_X3_arrive : GoodIn wsL_arrive (wsV RL 15 RX3 yX3_arrive wsX3_arrive) := goodIn_app (goodIn_of _ (by decide +kernel)) ggL_arrive_X3_arrive
theorem dL_arrive_0 : decode cL_arrive 0 = .ok (.aload_n 2, 1) := by decide +kernel
theorem dL_arrive_1 : decode cL_arrive 1 = .ok (.iconst 0, 1) := by decide +kernel
theorem dL_arrive_2 : decode cL_arrive 2 = .ok (.aload_n 0, 1) := by decide +kernel
theorem dL_arrive_3 : decode cL_arrive 3 = .ok (.iload_n 1, 1) := by decide +kernel
theorem dL_arrive_4 : decode cL_arrive 4 = .ok (.invokevirtual 15, 3) := by decide +kernel
theorem dL_arrive_7 : decode cL_arrive 7 = .ok (.i2l, 1) := by decide +kernel
theorem dL_arrive_8 : decode cL_arrive 8 = .ok (.lastore, 1) := by decide +kernel
theorem dL_arrive_9 : decode cL_arrive 9 = .ok (.goto 6, 3) := by decide +kernel
theorem dL_arrive_12 : decode cL_arrive 12 = .ok (.astore_n 3, 1) := by decide +kernel
theorem dL_arrive_13 : decode cL_arrive 13 = .ok (.iconst 1, 1) := by decide +kernel
theorem dL_arrive_14 : decode cL_arrive 14 = .ok (.ireturn, 1) := by decide +kernel
theorem dL_arrive_15 : decode cL_arrive 15 = .ok (.iconst 0, 1) := by decide +kernel
theorem dL_arrive_16 : decode cL_arrive 16 = .ok (.ireturn, 1) := by decide +kernel
set_option maxRecDepth 20000 in
theorem ggL_arriveRow_X3_arriveRow : GoodIn wsL_arriveRow wsX3_arriveRow := goodIn_ca (goodIn_ca (goodIn_r _ [7, 8, 9, 10, 11, 12, 13, 14, 15, 6, 16, 17, 18, 19, 20, 21, 22, 23, 24, 25, 26, 27, 28, 29, 30, 31, 32, 33, 34, 35, 36, 37, 38, 39, 40, 41, 42] (by decide +kernel) (by decide +kernel)) (goodIn_sub (fun _ h => List.mem_cons_of_mem _ (List.mem_append_left _ (List.mem_append_right _ h))) (by decide +kernel))) (goodIn_sub (fun _ h => List.mem_cons_of_mem _ (List.mem_append_right _ h)) (by decide +kernel))
set_option maxRecDepth 20000 in
theorem gL_arriveRow_X3_arriveRow : GoodIn wsL_arriveRow (wsV RL 21 RX3 yX3_arriveRow wsX3_arriveRow) := goodIn_app (goodIn_of _ (by decide +kernel)) ggL_arriveRow_X3_arriveRow
theorem dL_arriveRow_0 : decode cL_arriveRow 0 = .ok (.aload_n 3, 1) := by decide +kernel
theorem dL_arriveRow_1 : decode cL_arriveRow 1 = .ok (.iconst 0, 1) := by decide +kernel
theorem dL_arriveRow_2 : decode cL_arriveRow 2 = .ok (.aload_n 0, 1) := by decide +kernel
theorem dL_arriveRow_3 : decode cL_arriveRow 3 = .ok (.iload_n 1, 1) := by decide +kernel
theorem dL_arriveRow_4 : decode cL_arriveRow 4 = .ok (.iload_n 2, 1) := by decide +kernel
theorem dL_arriveRow_5 : decode cL_arriveRow 5 = .ok (.invokevirtual 21, 3) := by decide +kernel
theorem dL_arriveRow_8 : decode cL_arriveRow 8 = .ok (.i2l, 1) := by decide +kernel
theorem dL_arriveRow_9 : decode cL_arriveRow 9 = .ok (.lastore, 1) := by decide +kernel
theorem dL_arriveRow_10 : decode cL_arriveRow 10 = .ok (.goto 11, 3) := by decide +kernel
theorem dL_arriveRow_13 : decode cL_arriveRow 13 = .ok (.astore 4, 2) := by decide +kernel
theorem dL_arriveRow_15 : decode cL_arriveRow 15 = .ok (.iconst 1, 1) := by decide +kernel
theorem dL_arriveRow_16 : decode cL_arriveRow 16 = .ok (.ireturn, 1) := by decide +kernel
theorem dL_arriveRow_17 : decode cL_arriveRow 17 = .ok (.astore 4, 2) := by decide +kernel
theorem dL_arriveRow_19 : decode cL_arriveRow 19 = .ok (.iconst 2, 1) := by decide +kernel
theorem dL_arriveRow_20 : decode cL_arriveRow 20 = .ok (.ireturn, 1) := by decide +kernel
theorem dL_arriveRow_21 : decode cL_arriveRow 21 = .ok (.iconst 0, 1) := by decide +kernel
theorem dL_arriveRow_22 : decode cL_arriveRow 22 = .ok (.ireturn, 1) := by decide +kernel
set_option maxRecDepth 20000 in
theorem ggL_advance_X3_advance : GoodIn wsL_advance wsX3_advance := goodIn_ca (goodIn_ca (goodIn_r _ [7, 8, 9, 10, 11, 12, 13, 14, 6, 15, 16, 17, 18, 19, 20, 21, 22, 23, 24, 25, 26, 27, 28, 29, 30, 31, 32, 33, 34, 35, 36, 37, 38, 39, 40, 41, 42, 43, 44, 45, 46, 47, 48, 49, 50, 51, 52, 53, 54, 55, 56, 57, 58, 59, 60, 61, 62, 63, 64, 65, 66, 67, 68, 69, 70, 71, 72, 73, 74, 75, 76, 77, 78, 79, 80, 81, 82, 83, 84, 85, 86, 87, 88, 89, 90, 91, 92, 93, 94, 95, 96, 97, 98, 99, 100, 101, 102, 103, 104, 105, 106, 107, 108, 109, 110, 111, 112, 113, 114, 115, 116, 117, 118, 119, 120, 121, 122, 123, 124, 125, 126, 127, 128, 129, 130, 131, 132, 133, 134, 135, 136, 137, 138, 139, 140, 141, 142, 143, 144, 145, 146, 147, 148, 149, 150, 151, 152, 153, 154, 155, 156] (by decide +kernel) (by decide +kernel)) (goodIn_sub (fun _ h => List.mem_cons_of_mem _ (List.mem_append_left _ (List.mem_append_right _ h))) (by decide +kernel))) (goodIn_sub (fun _ h => List.mem_cons_of_mem _ (List.mem_append_right _ h)) (by decide +kernel))
set_option maxRecDepth 20000 in
theorem gL_advance_X3_advance : GoodIn wsL_advance (wsV RL 25 RX3 yX3_advance wsX3_advance) := goodIn_app (goodIn_of _ (by decide +kernel)) ggL_advance_X3_advance
theorem dL_advance_0 : decode cL_advance 0 = .ok (.aload_n 2, 1) := by decide +kernel
theorem dL_advance_1 : decode cL_advance 1 = .ok (.iconst 0, 1) := by decide +kernel
theorem dL_advance_2 : decode cL_advance 2 = .ok (.aload_n 0, 1) := by decide +kernel
theorem dL_advance_3 : decode cL_advance 3 = .ok (.iload_n 1, 1) := by decide +kernel
theorem dL_advance_4 : decode cL_advance 4 = .ok (.invokevirtual 25, 3) := by decide +kernel
theorem dL_advance_7 : decode cL_advance 7 = .ok (.i2l, 1) := by decide +kernel
theorem dL_advance_8 : decode cL_advance 8 = .ok (.lastore, 1) := by decide +kernel
theorem dL_advance_9 : decode cL_advance 9 = .ok (.goto 9, 3) := by decide +kernel
theorem dL_advance_12 : decode cL_advance 12 = .ok (.astore_n 3, 1) := by decide +kernel
theorem dL_advance_13 : decode cL_advance 13 = .ok (.iconst 1, 1) := by decide +kernel
theorem dL_advance_14 : decode cL_advance 14 = .ok (.ireturn, 1) := by decide +kernel
theorem dL_advance_15 : decode cL_advance 15 = .ok (.astore_n 3, 1) := by decide +kernel
theorem dL_advance_16 : decode cL_advance 16 = .ok (.iconst 2, 1) := by decide +kernel
theorem dL_advance_17 : decode cL_advance 17 = .ok (.ireturn, 1) := by decide +kernel
theorem dL_advance_18 : decode cL_advance 18 = .ok (.iconst 0, 1) := by decide +kernel
theorem dL_advance_19 : decode cL_advance 19 = .ok (.ireturn, 1) := by decide +kernel
set_option maxRecDepth 20000 in
theorem ggL_has_X3_has : GoodIn wsL_has wsX3_has := goodIn_ca (goodIn_r _ [6, 7, 8, 9, 10, 11, 5, 12, 13, 14, 15, 16, 17, 18, 19, 20, 21, 22, 23, 24, 25, 26, 27] (by decide +kernel) (by decide +kernel)) (goodIn_sub (fun _ h => List.mem_cons_of_mem _ (List.mem_append_right _ h)) (by decide +kernel))
set_option maxRecDepth 20000 in
theorem gL_has_X3_has : GoodIn wsL_has (wsV RL 30 RX3 yX3_has wsX3_has) := goodIn_app (goodIn_of _ (by decide +kernel)) ggL_has_X3_has
theorem dL_has_0 : decode cL_has 0 = .ok (.aload_n 2, 1) := by decide +kernel
theorem dL_has_1 : decode cL_has 1 = .ok (.iconst 0, 1) := by decide +kernel
theorem dL_has_2 : decode cL_has 2 = .ok (.aload_n 0, 1) := by decide +kernel
theorem dL_has_3 : decode cL_has 3 = .ok (.iload_n 1, 1) := by decide +kernel
theorem dL_has_4 : decode cL_has 4 = .ok (.invokevirtual 30, 3) := by decide +kernel
theorem dL_has_7 : decode cL_has 7 = .ok (.ifCond .eq 7, 3) := by decide +kernel
theorem dL_has_10 : decode cL_has 10 = .ok (.lconst 1, 1) := by decide +kernel
theorem dL_has_11 : decode cL_has 11 = .ok (.goto 4, 3) := by decide +kernel
theorem dL_has_14 : decode cL_has 14 = .ok (.lconst 0, 1) := by decide +kernel
theorem dL_has_15 : decode cL_has 15 = .ok (.lastore, 1) := by decide +kernel
theorem dL_has_16 : decode cL_has 16 = .ok (.goto 6, 3) := by decide +kernel
theorem dL_has_19 : decode cL_has 19 = .ok (.astore_n 3, 1) := by decide +kernel
theorem dL_has_20 : decode cL_has 20 = .ok (.iconst 1, 1) := by decide +kernel
theorem dL_has_21 : decode cL_has 21 = .ok (.ireturn, 1) := by decide +kernel
theorem dL_has_22 : decode cL_has 22 = .ok (.iconst 0, 1) := by decide +kernel
theorem dL_has_23 : decode cL_has 23 = .ok (.ireturn, 1) := by decide +kernel
set_option maxRecDepth 20000 in
theorem ggL_askedAt_X3_askedAt : GoodIn wsL_askedAt wsX3_askedAt := goodIn_ca (goodIn_r _ [6, 7, 8, 9, 10, 11, 12, 13, 14, 15, 16, 17, 18] (by decide +kernel) (by decide +kernel)) (goodIn_sub (fun _ h => List.mem_cons_of_mem _ (List.mem_append_right _ h)) (by decide +kernel))
set_option maxRecDepth 20000 in
theorem gL_askedAt_X3_askedAt : GoodIn wsL_askedAt (wsV RL 34 RX3 yX3_askedAt wsX3_askedAt) := goodIn_app (goodIn_of _ (by decide +kernel)) ggL_askedAt_X3_askedAt
theorem dL_askedAt_0 : decode cL_askedAt 0 = .ok (.aload_n 2, 1) := by decide +kernel
theorem dL_askedAt_1 : decode cL_askedAt 1 = .ok (.iconst 0, 1) := by decide +kernel
theorem dL_askedAt_2 : decode cL_askedAt 2 = .ok (.aload_n 0, 1) := by decide +kernel
theorem dL_askedAt_3 : decode cL_askedAt 3 = .ok (.iload_n 1, 1) := by decide +kernel
theorem dL_askedAt_4 : decode cL_askedAt 4 = .ok (.invokevirtual 34, 3) := by decide +kernel
theorem dL_askedAt_7 : decode cL_askedAt 7 = .ok (.i2l, 1) := by decide +kernel
theorem dL_askedAt_8 : decode cL_askedAt 8 = .ok (.lastore, 1) := by decide +kernel
theorem dL_askedAt_9 : decode cL_askedAt 9 = .ok (.goto 6, 3) := by decide +kernel
theorem dL_askedAt_12 : decode cL_askedAt 12 = .ok (.astore_n 3, 1) := by decide +kernel
theorem dL_askedAt_13 : decode cL_askedAt 13 = .ok (.iconst 1, 1) := by decide +kernel
theorem dL_askedAt_14 : decode cL_askedAt 14 = .ok (.ireturn, 1) := by decide +kernel
theorem dL_askedAt_15 : decode cL_askedAt 15 = .ok (.iconst 0, 1) := by decide +kernel
theorem dL_askedAt_16 : decode cL_askedAt 16 = .ok (.ireturn, 1) := by decide +kernel
set_option maxRecDepth 20000 in
theorem ggL_kindOf_X3_kindOf : GoodIn wsL_kindOf wsX3_kindOf := goodIn_ca (goodIn_r _ [6, 7, 8, 9, 10, 5, 11, 12, 13, 14, 15] (by decide +kernel) (by decide +kernel)) (goodIn_sub (fun _ h => List.mem_cons_of_mem _ (List.mem_append_right _ h)) (by decide +kernel))
set_option maxRecDepth 20000 in
theorem gL_kindOf_X3_kindOf : GoodIn wsL_kindOf (wsV RL 37 RX3 yX3_kindOf wsX3_kindOf) := goodIn_app (goodIn_of _ (by decide +kernel)) ggL_kindOf_X3_kindOf
theorem dL_kindOf_0 : decode cL_kindOf 0 = .ok (.aload_n 2, 1) := by decide +kernel
theorem dL_kindOf_1 : decode cL_kindOf 1 = .ok (.iconst 0, 1) := by decide +kernel
theorem dL_kindOf_2 : decode cL_kindOf 2 = .ok (.aload_n 0, 1) := by decide +kernel
theorem dL_kindOf_3 : decode cL_kindOf 3 = .ok (.iload_n 1, 1) := by decide +kernel
theorem dL_kindOf_4 : decode cL_kindOf 4 = .ok (.invokevirtual 37, 3) := by decide +kernel
theorem dL_kindOf_7 : decode cL_kindOf 7 = .ok (.i2l, 1) := by decide +kernel
theorem dL_kindOf_8 : decode cL_kindOf 8 = .ok (.lastore, 1) := by decide +kernel
theorem dL_kindOf_9 : decode cL_kindOf 9 = .ok (.goto 6, 3) := by decide +kernel
theorem dL_kindOf_12 : decode cL_kindOf 12 = .ok (.astore_n 3, 1) := by decide +kernel
theorem dL_kindOf_13 : decode cL_kindOf 13 = .ok (.iconst 1, 1) := by decide +kernel
theorem dL_kindOf_14 : decode cL_kindOf 14 = .ok (.ireturn, 1) := by decide +kernel
theorem dL_kindOf_15 : decode cL_kindOf 15 = .ok (.iconst 0, 1) := by decide +kernel
theorem dL_kindOf_16 : decode cL_kindOf 16 = .ok (.ireturn, 1) := by decide +kernel
set_option maxRecDepth 20000 in
theorem ggL_need_X3_need : GoodIn wsL_need wsX3_need := goodIn_ca (goodIn_r _ [6, 7, 8, 9, 10, 5, 11, 12, 13, 14, 15, 16, 17, 18, 19, 20, 21] (by decide +kernel) (by decide +kernel)) (goodIn_sub (fun _ h => List.mem_cons_of_mem _ (List.mem_append_right _ h)) (by decide +kernel))
set_option maxRecDepth 20000 in
theorem gL_need_X3_need : GoodIn wsL_need (wsV RL 40 RX3 yX3_need wsX3_need) := goodIn_app (goodIn_of _ (by decide +kernel)) ggL_need_X3_need
theorem dL_need_0 : decode cL_need 0 = .ok (.aload_n 3, 1) := by decide +kernel
theorem dL_need_1 : decode cL_need 1 = .ok (.iconst 0, 1) := by decide +kernel
theorem dL_need_2 : decode cL_need 2 = .ok (.aload_n 0, 1) := by decide +kernel
theorem dL_need_3 : decode cL_need 3 = .ok (.iload_n 1, 1) := by decide +kernel
theorem dL_need_4 : decode cL_need 4 = .ok (.iload_n 2, 1) := by decide +kernel
theorem dL_need_5 : decode cL_need 5 = .ok (.invokevirtual 40, 3) := by decide +kernel
theorem dL_need_8 : decode cL_need 8 = .ok (.i2l, 1) := by decide +kernel
theorem dL_need_9 : decode cL_need 9 = .ok (.lastore, 1) := by decide +kernel
theorem dL_need_10 : decode cL_need 10 = .ok (.goto 7, 3) := by decide +kernel
theorem dL_need_13 : decode cL_need 13 = .ok (.astore 4, 2) := by decide +kernel
theorem dL_need_15 : decode cL_need 15 = .ok (.iconst 1, 1) := by decide +kernel
theorem dL_need_16 : decode cL_need 16 = .ok (.ireturn, 1) := by decide +kernel
theorem dL_need_17 : decode cL_need 17 = .ok (.iconst 0, 1) := by decide +kernel
theorem dL_need_18 : decode cL_need 18 = .ok (.ireturn, 1) := by decide +kernel
set_option maxRecDepth 20000 in
theorem ggL_isWhole_X3_isWhole : GoodIn wsL_isWhole wsX3_isWhole := goodIn_ca (goodIn_r _ [6, 7, 8, 9, 10, 11, 5, 12, 13, 14, 15, 16, 17, 18, 19, 20, 21, 22, 23, 24, 25, 26, 27] (by decide +kernel) (by decide +kernel)) (goodIn_sub (fun _ h => List.mem_cons_of_mem _ (List.mem_append_right _ h)) (by decide +kernel))
set_option maxRecDepth 20000 in
theorem gL_isWhole_X3_isWhole : GoodIn wsL_isWhole (wsV RL 44 RX3 yX3_isWhole wsX3_isWhole) := goodIn_app (goodIn_of _ (by decide +kernel)) ggL_isWhole_X3_isWhole
theorem dL_isWhole_0 : decode cL_isWhole 0 = .ok (.aload_n 2, 1) := by decide +kernel
theorem dL_isWhole_1 : decode cL_isWhole 1 = .ok (.iconst 0, 1) := by decide +kernel
theorem dL_isWhole_2 : decode cL_isWhole 2 = .ok (.aload_n 0, 1) := by decide +kernel
theorem dL_isWhole_3 : decode cL_isWhole 3 = .ok (.iload_n 1, 1) := by decide +kernel
theorem dL_isWhole_4 : decode cL_isWhole 4 = .ok (.invokevirtual 44, 3) := by decide +kernel
theorem dL_isWhole_7 : decode cL_isWhole 7 = .ok (.ifCond .eq 7, 3) := by decide +kernel
theorem dL_isWhole_10 : decode cL_isWhole 10 = .ok (.lconst 1, 1) := by decide +kernel
theorem dL_isWhole_11 : decode cL_isWhole 11 = .ok (.goto 4, 3) := by decide +kernel
theorem dL_isWhole_14 : decode cL_isWhole 14 = .ok (.lconst 0, 1) := by decide +kernel
theorem dL_isWhole_15 : decode cL_isWhole 15 = .ok (.lastore, 1) := by decide +kernel
theorem dL_isWhole_16 : decode cL_isWhole 16 = .ok (.goto 6, 3) := by decide +kernel
theorem dL_isWhole_19 : decode cL_isWhole 19 = .ok (.astore_n 3, 1) := by decide +kernel
theorem dL_isWhole_20 : decode cL_isWhole 20 = .ok (.iconst 1, 1) := by decide +kernel
theorem dL_isWhole_21 : decode cL_isWhole 21 = .ok (.ireturn, 1) := by decide +kernel
theorem dL_isWhole_22 : decode cL_isWhole 22 = .ok (.iconst 0, 1) := by decide +kernel
theorem dL_isWhole_23 : decode cL_isWhole 23 = .ok (.ireturn, 1) := by decide +kernel
set_option maxRecDepth 20000 in
theorem ggL_fate_X3_fate : GoodIn wsL_fate wsX3_fate := goodIn_ca (goodIn_r _ [6, 7, 8, 9, 10, 11, 5, 12, 13, 14, 15, 16, 17, 18, 19, 20, 21, 22] (by decide +kernel) (by decide +kernel)) (goodIn_sub (fun _ h => List.mem_cons_of_mem _ (List.mem_append_right _ h)) (by decide +kernel))
set_option maxRecDepth 20000 in
theorem gL_fate_X3_fate : GoodIn wsL_fate (wsV RL 47 RX3 yX3_fate wsX3_fate) := goodIn_app (goodIn_of _ (by decide +kernel)) ggL_fate_X3_fate
theorem dL_fate_0 : decode cL_fate 0 = .ok (.aload_n 2, 1) := by decide +kernel
theorem dL_fate_1 : decode cL_fate 1 = .ok (.iconst 0, 1) := by decide +kernel
theorem dL_fate_2 : decode cL_fate 2 = .ok (.aload_n 0, 1) := by decide +kernel
theorem dL_fate_3 : decode cL_fate 3 = .ok (.iload_n 1, 1) := by decide +kernel
theorem dL_fate_4 : decode cL_fate 4 = .ok (.invokevirtual 47, 3) := by decide +kernel
theorem dL_fate_7 : decode cL_fate 7 = .ok (.i2l, 1) := by decide +kernel
theorem dL_fate_8 : decode cL_fate 8 = .ok (.lastore, 1) := by decide +kernel
theorem dL_fate_9 : decode cL_fate 9 = .ok (.goto 6, 3) := by decide +kernel
theorem dL_fate_12 : decode cL_fate 12 = .ok (.astore_n 3, 1) := by decide +kernel
theorem dL_fate_13 : decode cL_fate 13 = .ok (.iconst 1, 1) := by decide +kernel
theorem dL_fate_14 : decode cL_fate 14 = .ok (.ireturn, 1) := by decide +kernel
theorem dL_fate_15 : decode cL_fate 15 = .ok (.iconst 0, 1) := by decide +kernel
theorem dL_fate_16 : decode cL_fate 16 = .ok (.ireturn, 1) := by decide +kernel
set_option maxRecDepth 20000 in
theorem ggL_law_X3_init : GoodIn wsL_law wsX3_init := goodIn_r _ [9, 10, 11, 12, 13, 14, 15, 16, 17, 18, 19, 20, 21, 22, 23, 24, 25, 26, 27, 28, 29, 30, 31, 32, 33, 34, 35, 36, 37, 38, 39, 40, 41, 42, 43, 44, 45, 46, 47, 48, 49, 50, 51, 52, 53, 54, 55, 56, 509, 510, 511, 512, 513, 514, 515, 516, 517, 483, 484, 485, 486, 518, 519, 520, 521, 522, 523, 524, 525, 526, 527, 528] (by decide +kernel) (by decide +kernel)
set_option maxRecDepth 20000 in
theorem gL_law_X3_init : GoodIn wsL_law (wsX3_init) := ggL_law_X3_init
set_option maxRecDepth 20000 in
theorem ggL_law_X4_init : GoodIn wsL_law wsX4_init := goodIn_r _ [59, 60, 11, 12, 61, 62, 63, 64, 28, 65, 66, 41, 67, 68, 69, 70, 71, 487, 488, 489, 490, 491, 492, 493, 494, 495, 496, 497, 498, 499, 500, 501, 502, 503, 504, 505, 506, 507, 508] (by decide +kernel) (by decide +kernel)
set_option maxRecDepth 20000 in
theorem gL_law_X4_init : GoodIn wsL_law (wsX4_init) := ggL_law_X4_init
set_option maxRecDepth 20000 in
theorem ggL_law_L_set : GoodIn wsL_law wsL_set := goodIn_ca (goodIn_r _ [75, 76, 77, 78, 79, 2, 80, 81, 82, 16, 83, 84, 85, 483, 484, 485, 486, 509, 510, 511, 512, 513, 514, 515, 516, 517] (by decide +kernel) (by decide +kernel)) (goodIn_sub (fun _ h => List.mem_append_left _ (List.mem_append_left _ (List.mem_append_right _ h))) (by decide +kernel))
set_option maxRecDepth 20000 in
theorem gL_law_L_set : GoodIn wsL_law (va_wsS RL 54 yL_set wsL_set) := goodIn_app (goodIn_of _ (by decide +kernel)) ggL_law_L_set
set_option maxRecDepth 20000 in
theorem ggL_law_X4_set : GoodIn wsL_law wsX4_set := goodIn_r _ [89, 61, 62, 63, 64, 90, 91, 5, 92, 93, 94, 95, 96, 97, 487, 488, 489, 490, 491, 492, 493, 494, 495, 496, 497, 498, 499, 500, 501, 502, 503, 504, 505, 506, 507, 508] (by decide +kernel) (by decide +kernel)
set_option maxRecDepth 20000 in
theorem gL_law_X4_set : GoodIn wsL_law (wsV RL 59 RX4 yX4_set wsX4_set) := goodIn_app (goodIn_of _ (by decide +kernel)) ggL_law_X4_set
set_option maxRecDepth 20000 in
theorem ggL_law_X4_thrown : GoodIn wsL_law wsX4_thrown := goodIn_r _ [101, 97, 487, 488, 489, 490, 491, 492, 493, 494, 495, 496, 497, 498, 499, 500, 501, 502, 503, 504, 505, 506, 507, 508] (by decide +kernel) (by decide +kernel)
set_option maxRecDepth 20000 in
theorem gL_law_X4_thrown : GoodIn wsL_law (wsV RL 60 RX4 yX4_thrown wsX4_thrown) := goodIn_app (goodIn_of _ (by decide +kernel)) ggL_law_X4_thrown
set_option maxRecDepth 20000 in
theorem ggL_law_L_arrive : GoodIn wsL_law wsL_arrive := goodIn_ca (goodIn_r _ [104, 105, 106, 107, 108, 2, 109, 110, 111, 16, 112, 113, 114, 115, 116, 117, 118, 15, 119, 31, 32, 37, 29, 30, 483, 484, 485, 486, 509, 510, 511, 512, 513, 514, 515, 516, 517] (by decide +kernel) (by decide +kernel)) (goodIn_sub (fun _ h => List.mem_append_left _ (List.mem_append_right _ h)) (by decide +kernel))
set_option maxRecDepth 20000 in
theorem gL_law_L_arrive : GoodIn wsL_law (va_wsS RL 64 yL_arrive wsL_arrive) := goodIn_app (goodIn_of _ (by decide +kernel)) ggL_law_L_arrive
set_option maxRecDepth 20000 in
theorem ggL_law_X4_arrive : GoodIn wsL_law wsX4_arrive := goodIn_r _ [123, 124, 90, 91, 5, 92, 93, 94, 95, 96, 97, 125, 126, 127, 128, 61, 129, 130, 65, 66, 131, 487, 488, 489, 490, 491, 492, 493, 494, 495, 496, 497, 498, 499, 500, 501, 502, 503, 504, 505, 506, 507, 508] (by decide +kernel) (by decide +kernel)
set_option maxRecDepth 20000 in
theorem gL_law_X4_arrive : GoodIn wsL_law (wsV RL 67 RX4 yX4_arrive wsX4_arrive) := goodIn_app (goodIn_of _ (by decide +kernel)) ggL_law_X4_arrive
set_option maxRecDepth 20000 in
theorem ggL_law_L_arriveRow : GoodIn wsL_law wsL_arriveRow := goodIn_ca (goodIn_ca (goodIn_r _ [134, 105, 76, 135, 136, 137, 2, 138, 110, 111, 81, 82, 16, 112, 113, 114, 115, 83, 84, 85, 116, 117, 118, 15, 119, 31, 32, 37, 29, 30, 483, 484, 485, 486, 509, 510, 511, 512, 513, 514, 515, 516, 517] (by decide +kernel) (by decide +kernel)) (goodIn_sub (fun _ h => List.mem_append_left _ (List.mem_append_right _ h)) (by decide +kernel))) (goodIn_sub (fun _ h => List.mem_append_left _ (List.mem_append_left _ (List.mem_append_right _ h))) (by decide +kernel))
set_option maxRecDepth 20000 in
theorem gL_law_L_arriveRow : GoodIn wsL_law (va_wsS RL 68 yL_arriveRow wsL_arriveRow) := goodIn_app (goodIn_of _ (by decide +kernel)) ggL_law_L_arriveRow
set_option maxRecDepth 20000 in
theorem ggL_law_X4_arriveRow : GoodIn wsL_law wsX4_arriveRow := goodIn_r _ [142, 90, 91, 5, 92, 93, 94, 95, 96, 97, 143, 144, 145, 146, 125, 126, 127, 128, 124, 61, 129, 130, 65, 66, 131, 487, 488, 489, 490, 491, 492, 493, 494, 495, 496, 497, 498, 499, 500, 501, 502, 503, 504, 505, 506, 507, 508] (by decide +kernel) (by decide +kernel)
set_option maxRecDepth 20000 in
theorem gL_law_X4_arriveRow : GoodIn wsL_law (wsV RL 71 RX4 yX4_arriveRow wsX4_arriveRow) := goodIn_app (goodIn_of _ (by decide +kernel)) ggL_law_X4_arriveRow
set_option maxRecDepth 20000 in
theorem ggL_law_L_advance : GoodIn wsL_law wsL_advance := goodIn_ca (goodIn_ca (goodIn_r _ [149, 76, 150, 151, 152, 153, 2, 154, 81, 82, 155, 156, 112, 83, 84, 85, 157, 158, 159, 160, 16, 20, 24, 161, 162, 163, 15, 164, 36, 31, 165, 166, 167, 168, 35, 169, 170, 171, 172, 33, 30, 34, 173, 174, 175, 176, 29, 177, 178, 179, 19, 180, 42, 45, 181, 182, 183, 114, 115, 184, 185, 186, 187, 188, 189, 190, 191, 192, 46, 193, 194, 195, 196, 197, 198, 199, 200, 44, 43, 201, 202, 203, 23, 204, 53, 54, 205, 206, 207, 208, 56, 209, 210, 211, 212, 213, 214, 215, 216, 52, 51, 55, 217, 218, 219, 220, 221, 222, 223, 224, 225, 226, 227, 228, 229, 230, 231, 232, 233, 234, 235, 236, 237, 238, 239, 240, 241, 242, 243, 244, 245, 246, 247, 483, 484, 485, 486, 523, 524, 525, 526, 527, 528, 509, 510, 511, 512, 513, 514, 515, 516, 517, 518, 519, 520, 521, 522] (by decide +kernel) (by decide +kernel)) (goodIn_sub (fun _ h => List.mem_append_left _ (List.mem_append_left _ (List.mem_append_right _ h))) (by decide +kernel))) (goodIn_sub (fun _ h => List.mem_append_right _ h) (by decide +kernel))
set_option maxRecDepth 20000 in
theorem gL_law_L_advance : GoodIn wsL_law (va_wsS RL 72 yL_advance wsL_advance) := goodIn_app (goodIn_of _ (by decide +kernel)) ggL_law_L_advance
set_option maxRecDepth 20000 in
theorem ggL_law_X4_advance : GoodIn wsL_law wsX4_advance := goodIn_r _ [251, 131, 90, 91, 5, 92, 93, 94, 95, 96, 97, 143, 144, 145, 146, 252, 253, 254, 255, 256, 257, 258, 259, 260, 261, 262, 263, 264, 124, 62, 66, 130, 63, 64, 265, 266, 267, 268, 67, 65, 269, 270, 271, 272, 68, 69, 273, 274, 275, 276, 277, 278, 279, 280, 281, 70, 282, 283, 284, 285, 286, 287, 288, 289, 290, 291, 292, 293, 294, 487, 488, 489, 490, 491, 492, 493, 494, 495, 496, 497, 498, 499, 500, 501, 502, 503, 504, 505, 506, 507, 508] (by decide +kernel) (by decide +kernel)
set_option maxRecDepth 20000 in
theorem gL_law_X4_advance : GoodIn wsL_law (wsV RL 74 RX4 yX4_advance wsX4_advance) := goodIn_app (goodIn_of _ (by decide +kernel)) ggL_law_X4_advance
set_option maxRecDepth 20000 in
theorem ggL_law_X3_reset : GoodIn wsL_law wsX3_reset := goodIn_r _ [298, 16, 299, 300, 301, 15, 302, 31, 37, 36, 483, 484, 485, 486, 509, 510, 511, 512, 513, 514, 515, 516, 517] (by decide +kernel) (by decide +kernel)
set_option maxRecDepth 20000 in
theorem gL_law_X3_reset : GoodIn wsL_law (wsV RL 75 RX3 yX3_reset wsX3_reset) := goodIn_app (goodIn_of _ (by decide +kernel)) ggL_law_X3_reset
set_option maxRecDepth 20000 in
theorem ggL_law_X4_reset : GoodIn wsL_law wsX4_reset := goodIn_r _ [306, 97, 124, 129, 264, 487, 488, 489, 490, 491, 492, 493, 494, 495, 496, 497, 498, 499, 500, 501, 502, 503, 504, 505, 506, 507, 508] (by decide +kernel) (by decide +kernel)
set_option maxRecDepth 20000 in
theorem gL_law_X4_reset : GoodIn wsL_law (wsV RL 78 RX4 yX4_reset wsX4_reset) := goodIn_app (goodIn_of _ (by decide +kernel)) ggL_law_X4_reset
set_option maxRecDepth 20000 in
theorem ggL_law_X3_tick : GoodIn wsL_law wsX3_tick := goodIn_r _ [310, 112, 483, 484, 485, 486] (by decide +kernel) (by decide +kernel)
set_option maxRecDepth 20000 in
theorem gL_law_X3_tick : GoodIn wsL_law (wsV RL 79 RX3 yX3_tick wsX3_tick) := goodIn_app (goodIn_of _ (by decide +kernel)) ggL_law_X3_tick
set_option maxRecDepth 20000 in
theorem ggL_law_X4_tick : GoodIn wsL_law wsX4_tick := goodIn_r _ [314, 97, 131, 487, 488, 489, 490, 491, 492, 493, 494, 495, 496, 497, 498, 499, 500, 501, 502, 503, 504, 505, 506, 507, 508] (by decide +kernel) (by decide +kernel)
set_option maxRecDepth 20000 in
theorem gL_law_X4_tick : GoodIn wsL_law (wsV RL 82 RX4 yX4_tick wsX4_tick) := goodIn_app (goodIn_of _ (by decide +kernel)) ggL_law_X4_tick
set_option maxRecDepth 20000 in
theorem ggL_law_X3_waiting : GoodIn wsL_law wsX3_waiting := goodIn_r _ [318, 16, 483, 484, 485, 486, 509, 510, 511, 512, 513, 514, 515, 516, 517] (by decide +kernel) (by decide +kernel)
set_option maxRecDepth 20000 in
theorem gL_law_X3_waiting : GoodIn wsL_law (wsV RL 83 RX3 yX3_waiting wsX3_waiting) := goodIn_app (goodIn_of _ (by decide +kernel)) ggL_law_X3_waiting
set_option maxRecDepth 20000 in
theorem ggL_law_X4_waiting : GoodIn wsL_law wsX4_waiting := goodIn_r _ [322, 97, 124, 487, 488, 489, 490, 491, 492, 493, 494, 495, 496, 497, 498, 499, 500, 501, 502, 503, 504, 505, 506, 507, 508] (by decide +kernel) (by decide +kernel)
set_option maxRecDepth 20000 in
theorem gL_law_X4_waiting : GoodIn wsL_law (wsV RL 86 RX4 yX4_waiting wsX4_waiting) := goodIn_app (goodIn_of _ (by decide +kernel)) ggL_law_X4_waiting
set_option maxRecDepth 20000 in
theorem ggL_law_X3_lost : GoodIn wsL_law wsX3_lost := goodIn_r _ [326, 16, 483, 484, 485, 486, 509, 510, 511, 512, 513, 514, 515, 516, 517] (by decide +kernel) (by decide +kernel)
set_option maxRecDepth 20000 in
theorem gL_law_X3_lost : GoodIn wsL_law (wsV RL 87 RX3 yX3_lost wsX3_lost) := goodIn_app (goodIn_of _ (by decide +kernel)) ggL_law_X3_lost
set_option maxRecDepth 20000 in
theorem ggL_law_X4_lost : GoodIn wsL_law wsX4_lost := goodIn_r _ [330, 97, 129, 487, 488, 489, 490, 491, 492, 493, 494, 495, 496, 497, 498, 499, 500, 501, 502, 503, 504, 505, 506, 507, 508] (by decide +kernel) (by decide +kernel)
set_option maxRecDepth 20000 in
theorem gL_law_X4_lost : GoodIn wsL_law (wsV RL 90 RX4 yX4_lost wsX4_lost) := goodIn_app (goodIn_of _ (by decide +kernel)) ggL_law_X4_lost
set_option maxRecDepth 20000 in
theorem ggL_law_X3_isPolled : GoodIn wsL_law wsX3_isPolled := goodIn_r _ [334, 16, 483, 484, 485, 486, 509, 510, 511, 512, 513, 514, 515, 516, 517] (by decide +kernel) (by decide +kernel)
set_option maxRecDepth 20000 in
theorem gL_law_X3_isPolled : GoodIn wsL_law (wsV RL 91 RX3 yX3_isPolled wsX3_isPolled) := goodIn_app (goodIn_of _ (by decide +kernel)) ggL_law_X3_isPolled
set_option maxRecDepth 20000 in
theorem ggL_law_X4_isPolled : GoodIn wsL_law wsX4_isPolled := goodIn_r _ [338, 97, 264, 487, 488, 489, 490, 491, 492, 493, 494, 495, 496, 497, 498, 499, 500, 501, 502, 503, 504, 505, 506, 507, 508] (by decide +kernel) (by decide +kernel)
set_option maxRecDepth 20000 in
theorem gL_law_X4_isPolled : GoodIn wsL_law (wsV RL 95 RX4 yX4_isPolled wsX4_isPolled) := goodIn_app (goodIn_of _ (by decide +kernel)) ggL_law_X4_isPolled
set_option maxRecDepth 20000 in
theorem ggL_law_L_has : GoodIn wsL_law wsL_has := goodIn_ca (goodIn_r _ [341, 105, 342, 343, 344, 2, 345, 110, 111, 20, 113, 114, 115, 346, 194, 195, 19, 196, 42, 483, 484, 485, 486, 518, 519, 520, 521, 522] (by decide +kernel) (by decide +kernel)) (goodIn_sub (fun _ h => List.mem_append_left _ (List.mem_append_right _ h)) (by decide +kernel))
set_option maxRecDepth 20000 in
theorem gL_law_L_has : GoodIn wsL_law (va_wsS RL 96 yL_has wsL_has) := goodIn_app (goodIn_of _ (by decide +kernel)) ggL_law_L_has
set_option maxRecDepth 20000 in
theorem ggL_law_X4_has : GoodIn wsL_law wsX4_has := goodIn_r _ [350, 67, 90, 91, 5, 92, 93, 94, 95, 96, 97, 487, 488, 489, 490, 491, 492, 493, 494, 495, 496, 497, 498, 499, 500, 501, 502, 503, 504, 505, 506, 507, 508] (by decide +kernel) (by decide +kernel)
set_option maxRecDepth 20000 in
theorem gL_law_X4_has : GoodIn wsL_law (wsV RL 98 RX4 yX4_has wsX4_has) := goodIn_app (goodIn_of _ (by decide +kernel)) ggL_law_X4_has
set_option maxRecDepth 20000 in
theorem ggL_law_L_askedAt : GoodIn wsL_law wsL_askedAt := goodIn_ca (goodIn_r _ [353, 105, 354, 355, 356, 2, 357, 110, 111, 20, 483, 484, 485, 486, 518, 519, 520, 521, 522] (by decide +kernel) (by decide +kernel)) (goodIn_sub (fun _ h => List.mem_append_left _ (List.mem_append_right _ h)) (by decide +kernel))
set_option maxRecDepth 20000 in
theorem gL_law_L_askedAt : GoodIn wsL_law (va_wsS RL 99 yL_askedAt wsL_askedAt) := goodIn_app (goodIn_of _ (by decide +kernel)) ggL_law_L_askedAt
set_option maxRecDepth 20000 in
theorem ggL_law_X4_askedAt : GoodIn wsL_law wsX4_askedAt := goodIn_r _ [361, 273, 69, 90, 91, 5, 92, 93, 94, 95, 96, 97, 487, 488, 489, 490, 491, 492, 493, 494, 495, 496, 497, 498, 499, 500, 501, 502, 503, 504, 505, 506, 507, 508] (by decide +kernel) (by decide +kernel)
set_option maxRecDepth 20000 in
theorem gL_law_X4_askedAt : GoodIn wsL_law (wsV RL 101 RX4 yX4_askedAt wsX4_askedAt) := goodIn_app (goodIn_of _ (by decide +kernel)) ggL_law_X4_askedAt
set_option maxRecDepth 20000 in
theorem ggL_law_X3_asked : GoodIn wsL_law wsX3_asked := goodIn_r _ [365, 20, 483, 484, 485, 486, 518, 519, 520, 521, 522] (by decide +kernel) (by decide +kernel)
set_option maxRecDepth 20000 in
theorem gL_law_X3_asked : GoodIn wsL_law (wsV RL 102 RX3 yX3_asked wsX3_asked) := goodIn_app (goodIn_of _ (by decide +kernel)) ggL_law_X3_asked
set_option maxRecDepth 20000 in
theorem ggL_law_X4_asked : GoodIn wsL_law wsX4_asked := goodIn_r _ [369, 97, 273, 487, 488, 489, 490, 491, 492, 493, 494, 495, 496, 497, 498, 499, 500, 501, 502, 503, 504, 505, 506, 507, 508] (by decide +kernel) (by decide +kernel)
set_option maxRecDepth 20000 in
theorem gL_law_X4_asked : GoodIn wsL_law (wsV RL 105 RX4 yX4_asked wsX4_asked) := goodIn_app (goodIn_of _ (by decide +kernel)) ggL_law_X4_asked
set_option maxRecDepth 20000 in
theorem ggL_law_L_kindOf : GoodIn wsL_law wsL_kindOf := goodIn_ca (goodIn_r _ [372, 105, 373, 374, 375, 2, 376, 110, 111, 377, 217, 218, 378, 227, 23, 228] (by decide +kernel) (by decide +kernel)) (goodIn_sub (fun _ h => List.mem_append_left _ (List.mem_append_right _ h)) (by decide +kernel))
set_option maxRecDepth 20000 in
theorem gL_law_L_kindOf : GoodIn wsL_law (va_wsS RL 106 yL_kindOf wsL_kindOf) := goodIn_app (goodIn_of _ (by decide +kernel)) ggL_law_L_kindOf
set_option maxRecDepth 20000 in
theorem ggL_law_X4_kindOf : GoodIn wsL_law wsX4_kindOf := goodIn_r _ [382, 383, 384, 5, 385, 93, 94, 95, 96, 97, 285, 286, 287, 487, 488, 489, 490, 491, 492, 493, 494, 495, 496, 497, 498, 499, 500, 501, 502, 503, 504, 505, 506, 507, 508] (by decide +kernel) (by decide +kernel)
set_option maxRecDepth 20000 in
theorem gL_law_X4_kindOf : GoodIn wsL_law (wsV RL 108 RX4 yX4_kindOf wsX4_kindOf) := goodIn_app (goodIn_of _ (by decide +kernel)) ggL_law_X4_kindOf
set_option maxRecDepth 20000 in
theorem ggL_law_L_need : GoodIn wsL_law wsL_need := goodIn_ca (goodIn_r _ [388, 105, 389, 390, 391, 2, 392, 110, 111, 377, 217, 218, 393, 230, 23, 231, 226, 227, 228, 394, 224, 225] (by decide +kernel) (by decide +kernel)) (goodIn_sub (fun _ h => List.mem_append_left _ (List.mem_append_right _ h)) (by decide +kernel))
set_option maxRecDepth 20000 in
theorem gL_law_L_need : GoodIn wsL_law (va_wsS RL 109 yL_need wsL_need) := goodIn_app (goodIn_of _ (by decide +kernel)) ggL_law_L_need
set_option maxRecDepth 20000 in
theorem ggL_law_X4_need : GoodIn wsL_law wsX4_need := goodIn_r _ [398, 383, 384, 5, 385, 93, 94, 95, 96, 97, 288, 289, 290, 285, 286, 287, 282, 283, 284, 487, 488, 489, 490, 491, 492, 493, 494, 495, 496, 497, 498, 499, 500, 501, 502, 503, 504, 505, 506, 507, 508] (by decide +kernel) (by decide +kernel)
set_option maxRecDepth 20000 in
theorem gL_law_X4_need : GoodIn wsL_law (wsV RL 112 RX4 yX4_need wsX4_need) := goodIn_app (goodIn_of _ (by decide +kernel)) ggL_law_X4_need
set_option maxRecDepth 20000 in
theorem ggL_law_L_isWhole : GoodIn wsL_law wsL_isWhole := goodIn_ca (goodIn_r _ [401, 105, 402, 403, 404, 2, 405, 110, 111, 20, 377, 217, 218, 406, 210, 211, 19, 212, 42, 483, 484, 485, 486, 518, 519, 520, 521, 522] (by decide +kernel) (by decide +kernel)) (goodIn_sub (fun _ h => List.mem_append_left _ (List.mem_append_right _ h)) (by decide +kernel))
set_option maxRecDepth 20000 in
theorem gL_law_L_isWhole : GoodIn wsL_law (va_wsS RL 113 yL_isWhole wsL_isWhole) := goodIn_app (goodIn_of _ (by decide +kernel)) ggL_law_L_isWhole
set_option maxRecDepth 20000 in
theorem ggL_law_X4_isWhole : GoodIn wsL_law wsX4_isWhole := goodIn_r _ [410, 383, 384, 5, 385, 93, 94, 95, 96, 97, 274, 275, 276, 277, 67, 487, 488, 489, 490, 491, 492, 493, 494, 495, 496, 497, 498, 499, 500, 501, 502, 503, 504, 505, 506, 507, 508] (by decide +kernel) (by decide +kernel)
set_option maxRecDepth 20000 in
theorem gL_law_X4_isWhole : GoodIn wsL_law (wsV RL 115 RX4 yX4_isWhole wsX4_isWhole) := goodIn_app (goodIn_of _ (by decide +kernel)) ggL_law_X4_isWhole
set_option maxRecDepth 20000 in
theorem ggL_law_L_fate : GoodIn wsL_law wsL_fate := goodIn_ca (goodIn_r _ [413, 105, 414, 415, 416, 2, 417, 110, 111, 24, 377, 217, 218, 483, 484, 485, 486, 523, 524, 525, 526, 527, 528] (by decide +kernel) (by decide +kernel)) (goodIn_sub (fun _ h => List.mem_append_left _ (List.mem_append_right _ h)) (by decide +kernel))
set_option maxRecDepth 20000 in
theorem gL_law_L_fate : GoodIn wsL_law (va_wsS RL 116 yL_fate wsL_fate) := goodIn_app (goodIn_of _ (by decide +kernel)) ggL_law_L_fate
set_option maxRecDepth 20000 in
theorem ggL_law_X4_fate : GoodIn wsL_law wsX4_fate := goodIn_r _ [421, 70, 383, 384, 5, 385, 93, 94, 95, 96, 97, 487, 488, 489, 490, 491, 492, 493, 494, 495, 496, 497, 498, 499, 500, 501, 502, 503, 504, 505, 506, 507, 508] (by decide +kernel) (by decide +kernel)
set_option maxRecDepth 20000 in
theorem gL_law_X4_fate : GoodIn wsL_law (wsV RL 118 RX4 yX4_fate wsX4_fate) := goodIn_app (goodIn_of _ (by decide +kernel)) ggL_law_X4_fate
set_option maxRecDepth 20000 in
theorem ggL_law_X3_next : GoodIn wsL_law wsX3_next := goodIn_r _ [425, 24, 483, 484, 485, 486, 523, 524, 525, 526, 527, 528] (by decide +kernel) (by decide +kernel)
set_option maxRecDepth 20000 in
theorem gL_law_X3_next : GoodIn wsL_law (wsV RL 119 RX3 yX3_next wsX3_next) := goodIn_app (goodIn_of _ (by decide +kernel)) ggL_law_X3_next
set_option maxRecDepth 20000 in
theorem ggL_law_X4_next : GoodIn wsL_law wsX4_next := goodIn_r _ [429, 97, 258, 487, 488, 489, 490, 491, 492, 493, 494, 495, 496, 497, 498, 499, 500, 501, 502, 503, 504, 505, 506, 507, 508] (by decide +kernel) (by decide +kernel)
set_option maxRecDepth 20000 in
theorem gL_law_X4_next : GoodIn wsL_law (wsV RL 122 RX4 yX4_next wsX4_next) := goodIn_app (goodIn_of _ (by decide +kernel)) ggL_law_X4_next
set_option maxRecDepth 20000 in
theorem ggL_law_X3_turn : GoodIn wsL_law wsX3_turn := goodIn_r _ [433, 24, 483, 484, 485, 486, 523, 524, 525, 526, 527, 528] (by decide +kernel) (by decide +kernel)
set_option maxRecDepth 20000 in
theorem gL_law_X3_turn : GoodIn wsL_law (wsV RL 123 RX3 yX3_turn wsX3_turn) := goodIn_app (goodIn_of _ (by decide +kernel)) ggL_law_X3_turn
set_option maxRecDepth 20000 in
theorem ggL_law_X4_turn : GoodIn wsL_law wsX4_turn := goodIn_r _ [437, 97, 256, 258, 259, 487, 488, 489, 490, 491, 492, 493, 494, 495, 496, 497, 498, 499, 500, 501, 502, 503, 504, 505, 506, 507, 508] (by decide +kernel) (by decide +kernel)
set_option maxRecDepth 20000 in
theorem gL_law_X4_turn : GoodIn wsL_law (wsV RL 126 RX4 yX4_turn wsX4_turn) := goodIn_app (goodIn_of _ (by decide +kernel)) ggL_law_X4_turn
set_option maxRecDepth 20000 in
theorem ggL_law_X3_fill : GoodIn wsL_law wsX3_fill := goodIn_r _ [441, 24, 442, 245, 246, 23, 247, 52, 56, 209, 210, 211, 19, 212, 42, 483, 484, 485, 486, 523, 524, 525, 526, 527, 528, 518, 519, 520, 521, 522] (by decide +kernel) (by decide +kernel)
set_option maxRecDepth 20000 in
theorem gL_law_X3_fill : GoodIn wsL_law (wsV RL 127 RX3 yX3_fill wsX3_fill) := goodIn_app (goodIn_of _ (by decide +kernel)) ggL_law_X3_fill
set_option maxRecDepth 20000 in
theorem ggL_law_X4_fill : GoodIn wsL_law wsX4_fill := goodIn_r _ [446, 97, 291, 292, 293, 5, 294, 258, 274, 275, 276, 277, 67, 487, 488, 489, 490, 491, 492, 493, 494, 495, 496, 497, 498, 499, 500, 501, 502, 503, 504, 505, 506, 507, 508] (by decide +kernel) (by decide +kernel)
set_option maxRecDepth 20000 in
theorem gL_law_X4_fill : GoodIn wsL_law (wsV RL 130 RX4 yX4_fill wsX4_fill) := goodIn_app (goodIn_of _ (by decide +kernel)) ggL_law_X4_fill
set_option maxRecDepth 20000 in
theorem ggL_law_X3_shown : GoodIn wsL_law wsX3_shown := goodIn_r _ [450, 24, 483, 484, 485, 486, 523, 524, 525, 526, 527, 528] (by decide +kernel) (by decide +kernel)
set_option maxRecDepth 20000 in
theorem gL_law_X3_shown : GoodIn wsL_law (wsV RL 131 RX3 yX3_shown wsX3_shown) := goodIn_app (goodIn_of _ (by decide +kernel)) ggL_law_X3_shown
set_option maxRecDepth 20000 in
theorem ggL_law_X4_shown : GoodIn wsL_law wsX4_shown := goodIn_r _ [454, 97, 70, 487, 488, 489, 490, 491, 492, 493, 494, 495, 496, 497, 498, 499, 500, 501, 502, 503, 504, 505, 506, 507, 508] (by decide +kernel) (by decide +kernel)
set_option maxRecDepth 20000 in
theorem gL_law_X4_shown : GoodIn wsL_law (wsV RL 134 RX4 yX4_shown wsX4_shown) := goodIn_app (goodIn_of _ (by decide +kernel)) ggL_law_X4_shown
set_option maxRecDepth 20000 in
theorem ggL_law_X3_couldBe : GoodIn wsL_law wsX3_couldBe := goodIn_r _ [458, 24, 459, 460, 461, 23, 462, 52, 56, 209, 210, 211, 19, 212, 42, 223, 224, 225, 226, 227, 228, 463, 464, 465, 466, 236, 237, 238, 239, 229, 230, 231, 483, 484, 485, 486, 523, 524, 525, 526, 527, 528, 518, 519, 520, 521, 522] (by decide +kernel) (by decide +kernel)
set_option maxRecDepth 20000 in
theorem gL_law_X3_couldBe : GoodIn wsL_law (wsV RL 135 RX3 yX3_couldBe wsX3_couldBe) := goodIn_app (goodIn_of _ (by decide +kernel)) ggL_law_X3_couldBe
set_option maxRecDepth 20000 in
theorem ggL_law_X4_couldBe : GoodIn wsL_law wsX4_couldBe := goodIn_r _ [470, 97, 258, 71, 274, 275, 276, 5, 277, 67, 282, 283, 284, 285, 286, 287, 288, 289, 290, 487, 488, 489, 490, 491, 492, 493, 494, 495, 496, 497, 498, 499, 500, 501, 502, 503, 504, 505, 506, 507, 508] (by decide +kernel) (by decide +kernel)
set_option maxRecDepth 20000 in
theorem gL_law_X4_couldBe : GoodIn wsL_law (wsV RL 138 RX4 yX4_couldBe wsX4_couldBe) := goodIn_app (goodIn_of _ (by decide +kernel)) ggL_law_X4_couldBe
set_option maxRecDepth 20000 in
theorem ggL_law_X3_gap : GoodIn wsL_law wsX3_gap := goodIn_r _ [474, 24, 475, 476, 477, 23, 478, 54, 53, 52, 483, 484, 485, 486, 523, 524, 525, 526, 527, 528] (by decide +kernel) (by decide +kernel)
set_option maxRecDepth 20000 in
theorem gL_law_X3_gap : GoodIn wsL_law (wsV RL 139 RX3 yX3_gap wsX3_gap) := goodIn_app (goodIn_of _ (by decide +kernel)) ggL_law_X3_gap
set_option maxRecDepth 20000 in
theorem ggL_law_X4_gap : GoodIn wsL_law wsX4_gap := goodIn_r _ [482, 97, 256, 258, 259, 257, 487, 488, 489, 490, 491, 492, 493, 494, 495, 496, 497, 498, 499, 500, 501, 502, 503, 504, 505, 506, 507, 508] (by decide +kernel) (by decide +kernel)
set_option maxRecDepth 20000 in
theorem gL_law_X4_gap : GoodIn wsL_law (wsV RL 142 RX4 yX4_gap wsX4_gap) := goodIn_app (goodIn_of _ (by decide +kernel)) ggL_law_X4_gap
abbrev vwCl : List vw_C := [(RX0, TX0, 6), (RX1, TX1, 9), (RX2, TX2, 5), (RX3, TX3, 4), (RX4, TX4, 22)]
end
section
set_option maxRecDepth 20000 in
theorem wsL_law0_r1_in : ∀ w ∈ wsL_law0_r1, w ∈ lw_tbl := fun w h => (goodIn_p wsL_law0_r1 [38, 41] (by decide +kernel) (by decide +kernel) w h).1
set_option maxRecDepth 20000 in
theorem wsL_law0_r2_in : ∀ w ∈ wsL_law0_r2, w ∈ lw_tbl := fun w h => (goodIn_p wsL_law0_r2 [46, 88] (by decide +kernel) (by decide +kernel) w h).1
set_option maxRecDepth 20000 in
theorem wsL_law0_r3_in : ∀ w ∈ wsL_law0_r3, w ∈ lw_tbl := fun w h => (goodIn_p wsL_law0_r3 [113, 506] (by decide +kernel) (by decide +kernel) w h).1
set_option maxRecDepth 20000 in
theorem wsL_law0_r4_in : ∀ w ∈ wsL_law0_r4, w ∈ lw_tbl := fun w h => (goodIn_p wsL_law0_r4 [243, 246, 582, 585] (by decide +kernel) (by decide +kernel) w h).1
set_option maxRecDepth 20000 in
theorem wsL_law0_r5_in : ∀ w ∈ wsL_law0_r5, w ∈ lw_tbl := fun w h => (goodIn_p wsL_law0_r5 [589, 578, 322, 325, 345] (by decide +kernel) (by decide +kernel) w h).1
set_option maxRecDepth 20000 in
theorem wsL_law0_r6_in : ∀ w ∈ wsL_law0_r6, w ∈ lw_tbl := fun w h => (goodIn_p wsL_law0_r6 [593, 597, 352, 601] (by decide +kernel) (by decide +kernel) w h).1
set_option maxRecDepth 20000 in
theorem wsL_law0_r7_in : ∀ w ∈ wsL_law0_r7, w ∈ lw_tbl := fun w h => (goodIn_p wsL_law0_r7 [605, 362, 383, 387] (by decide +kernel) (by decide +kernel) w h).1
set_option maxRecDepth 20000 in
theorem wsL_law0_r8_in : ∀ w ∈ wsL_law0_r8, w ∈ lw_tbl := fun w h => (goodIn_p wsL_law0_r8 [390, 394, 398, 402, 406, 410] (by decide +kernel) (by decide +kernel) w h).1
set_option maxRecDepth 20000 in
theorem wsL_law0_r9_in : ∀ w ∈ wsL_law0_r9, w ∈ lw_tbl := fun w h => (goodIn_p wsL_law0_r9 [415, 419, 423, 427, 431, 198] (by decide +kernel) (by decide +kernel) w h).1
set_option maxRecDepth 20000 in
theorem wsL_law0_r10_in : ∀ w ∈ wsL_law0_r10, w ∈ lw_tbl := fun w h => (goodIn_p wsL_law0_r10 [435, 438, 442, 213, 216, 227, 446, 224] (by decide +kernel) (by decide +kernel) w h).1
set_option maxRecDepth 20000 in
theorem wsL_law0_r11_in : ∀ w ∈ wsL_law0_r11, w ∈ lw_tbl := fun w h => (goodIn_p wsL_law0_r11 [450, 194, 609, 613, 617] (by decide +kernel) (by decide +kernel) w h).1
set_option maxRecDepth 20000 in
theorem wsL_law0_r12_in : ∀ w ∈ wsL_law0_r12, w ∈ lw_tbl := fun w h => (goodIn_p wsL_law0_r12 [621, 625, 629, 633, 636, 639] (by decide +kernel) (by decide +kernel) w h).1
set_option maxRecDepth 20000 in
theorem wsL_law0_r13_in : ∀ w ∈ wsL_law0_r13, w ∈ lw_tbl := fun w h => (goodIn_p wsL_law0_r13 [642, 646, 154, 158, 650, 162] (by decide +kernel) (by decide +kernel) w h).1
set_option maxRecDepth 20000 in
theorem wsL_law0_r14_in : ∀ w ∈ wsL_law0_r14, w ∈ lw_tbl := fun w h => (goodIn_p wsL_law0_r14 [654, 166, 658, 170, 662, 174] (by decide +kernel) (by decide +kernel) w h).1
set_option maxRecDepth 20000 in
theorem wsL_law0_r15_in : ∀ w ∈ wsL_law0_r15, w ∈ lw_tbl := fun w h => (goodIn_p wsL_law0_r15 [666, 458, 670, 466] (by decide +kernel) (by decide +kernel) w h).1
set_option maxRecDepth 20000 in
theorem wsL_law0_r16_in : ∀ w ∈ wsL_law0_r16, w ∈ lw_tbl := fun w h => (goodIn_p wsL_law0_r16 [674, 178, 678, 474, 682] (by decide +kernel) (by decide +kernel) w h).1
set_option maxRecDepth 20000 in
theorem wsL_law0_r17_in : ∀ w ∈ wsL_law0_r17, w ∈ lw_tbl := fun w h => (goodIn_p wsL_law0_r17 [685, 484, 689, 493] (by decide +kernel) (by decide +kernel) w h).1
set_option maxRecDepth 20000 in
theorem wsL_law0_r18_in : ∀ w ∈ wsL_law0_r18, w ∈ lw_tbl := fun w h => (goodIn_p wsL_law0_r18 [693, 501, 697, 182, 701] (by decide +kernel) (by decide +kernel) w h).1
set_option maxRecDepth 20000 in
theorem wsL_law0_r19_in : ∀ w ∈ wsL_law0_r19, w ∈ lw_tbl := fun w h => (goodIn_p wsL_law0_r19 [186, 705, 190, 709, 202, 713] (by decide +kernel) (by decide +kernel) w h).1
set_option maxRecDepth 20000 in
theorem wsL_law0_r20_in : ∀ w ∈ wsL_law0_r20, w ∈ lw_tbl := fun w h => (goodIn_p wsL_law0_r20 [206, 210, 220, 717, 231, 235] (by decide +kernel) (by decide +kernel) w h).1
set_option maxRecDepth 20000 in
theorem wsL_law0_r21_in : ∀ w ∈ wsL_law0_r21, w ∈ lw_tbl := fun w h => (goodIn_p wsL_law0_r21 [721] (by decide +kernel) (by decide +kernel) w h).1
theorem wsL_law0_rs_in : ∀ w ∈ wsL_law0_r1 ++ (wsL_law0_r2 ++ (wsL_law0_r3 ++ (wsL_law0_r4 ++ (wsL_law0_r5 ++ (wsL_law0_r6 ++ (wsL_law0_r7 ++ (wsL_law0_r8 ++ (wsL_law0_r9 ++ (wsL_law0_r10 ++ (wsL_law0_r11 ++ (wsL_law0_r12 ++ (wsL_law0_r13 ++ (wsL_law0_r14 ++ (wsL_law0_r15 ++ (wsL_law0_r16 ++ (wsL_law0_r17 ++ (wsL_law0_r18 ++ (wsL_law0_r19 ++ (wsL_law0_r20 ++ (wsL_law0_r21)))))))))))))))))))), w ∈ lw_tbl := fun w h => (List.mem_append.mp h).elim (fun h => wsL_law0_r1_in w h) (fun h => (List.mem_append.mp h).elim (fun h => wsL_law0_r2_in w h) (fun h => (List.mem_append.mp h).elim (fun h => wsL_law0_r3_in w h) (fun h => (List.mem_append.mp h).elim (fun h => wsL_law0_r4_in w h) (fun h => (List.mem_append.mp h).elim (fun h => wsL_law0_r5_in w h) (fun h => (List.mem_append.mp h).elim (fun h => wsL_law0_r6_in w h) (fun h => (List.mem_append.mp h).elim (fun h => wsL_law0_r7_in w h) (fun h => (List.mem_append.mp h).elim (fun h => wsL_law0_r8_in w h) (fun h => (List.mem_append.mp h).elim (fun h => wsL_law0_r9_in w h) (fun h => (List.mem_append.mp h).elim (fun h => wsL_law0_r10_in w h) (fun h => (List.mem_append.mp h).elim (fun h => wsL_law0_r11_in w h) (fun h => (List.mem_append.mp h).elim (fun h => wsL_law0_r12_in w h) (fun h => (List.mem_append.mp h).elim (fun h => wsL_law0_r13_in w h) (fun h => (List.mem_append.mp h).elim (fun h => wsL_law0_r14_in w h) (fun h => (List.mem_append.mp h).elim (fun h => wsL_law0_r15_in w h) (fun h => (List.mem_append.mp h).elim (fun h => wsL_law0_r16_in w h) (fun h => (List.mem_append.mp h).elim (fun h => wsL_law0_r17_in w h) (fun h => (List.mem_append.mp h).elim (fun h => wsL_law0_r18_in w h) (fun h => (List.mem_append.mp h).elim (fun h => wsL_law0_r19_in w h) (fun h => (List.mem_append.mp h).elim (fun h => wsL_law0_r20_in w h) (fun h => wsL_law0_r21_in w h))))))))))))))))))))
set_option maxRecDepth 20000 in
theorem wsX00_in : ∀ w ∈ wsX00, w ∈ lw_tbl := fun w h => (goodIn_p wsX00 [] (by decide +kernel) (by decide +kernel) w h).1
set_option maxRecDepth 20000 in
theorem wsX10_in : ∀ w ∈ wsX10, w ∈ lw_tbl := fun w h => (goodIn_p wsX10 [] (by decide +kernel) (by decide +kernel) w h).1
set_option maxRecDepth 20000 in
theorem wsX20_in : ∀ w ∈ wsX20, w ∈ lw_tbl := fun w h => (goodIn_p wsX20 [] (by decide +kernel) (by decide +kernel) w h).1
set_option maxRecDepth 20000 in
theorem wsX30_in : ∀ w ∈ wsX30, w ∈ lw_tbl := fun w h => (goodIn_p wsX30 [] (by decide +kernel) (by decide +kernel) w h).1
set_option maxRecDepth 20000 in
theorem wsX40_in : ∀ w ∈ wsX40, w ∈ lw_tbl := fun w h => (goodIn_p wsX40 [] (by decide +kernel) (by decide +kernel) w h).1
theorem wsL_law_in0 : ∀ w ∈ wsL_law0, w ∈ lw_tbl := fun w h => (List.mem_append.mp h).elim (fun h => (List.mem_append.mp h).elim (fun h => (List.mem_append.mp h).elim (fun h => (List.mem_append.mp h).elim (fun h => (List.mem_append.mp h).elim (fun h => (List.mem_append.mp h).elim (fun h => wsL_law0_rs_in w h) (fun h => wsX30_in w h)) (fun h => wsX40_in w h)) (fun h => wsX10_in w h)) (fun h => wsX20_in w h)) (fun h => wsX00_in w h)) (fun h => absurd h List.not_mem_nil)
theorem wsL_law_x0 : ∀ w ∈ (vx_atS RX3 40 "java/lang/IllegalArgumentException" ["java/lang/RuntimeException", "java/lang/Exception"]).filter goodWord, w ∈ lw_tbl := by decide +kernel
theorem wsL_law_x1 : ∀ w ∈ (vx_atS RX3 64 "java/lang/IndexOutOfBoundsException" ["java/lang/RuntimeException", "java/lang/Exception"]).filter goodWord, w ∈ lw_tbl := by decide +kernel
theorem wsL_law_x2 : ∀ w ∈ (vx_atS RX3 84 "java/lang/IllegalStateException" ["java/lang/RuntimeException", "java/lang/Exception"]).filter goodWord, w ∈ lw_tbl := by decide +kernel
theorem wsL_law_in : ∀ w ∈ wsL_law, w ∈ lw_tbl := fun w h => (List.mem_append.mp h).elim (fun h => (List.mem_append.mp h).elim (fun h => (List.mem_append.mp h).elim (fun h => wsL_law_in0 w h) (fun h => wsL_law_x0 w h)) (fun h => wsL_law_x1 w h)) (fun h => wsL_law_x2 w h)
theorem inlX0 : ∀ w ∈ wsX00, w ∈ wsL_law := fun _ h => List.mem_append_left _ (List.mem_append_left _ (List.mem_append_left _ (List.mem_append_left _ (List.mem_append_right _ h))))
theorem inX0 : ∀ w ∈ wsX00, w ∈ lw_tbl := fun w h => wsL_law_in w (inlX0 w h)
theorem inlX1 : ∀ w ∈ wsX10, w ∈ wsL_law := fun _ h => List.mem_append_left _ (List.mem_append_left _ (List.mem_append_left _ (List.mem_append_left _ (List.mem_append_left _ (List.mem_append_left _ (List.mem_append_right _ h))))))
theorem inX1 : ∀ w ∈ wsX10, w ∈ lw_tbl := fun w h => wsL_law_in w (inlX1 w h)
theorem inlX2 : ∀ w ∈ wsX20, w ∈ wsL_law := fun _ h => List.mem_append_left _ (List.mem_append_left _ (List.mem_append_left _ (List.mem_append_left _ (List.mem_append_left _ (List.mem_append_right _ h)))))
theorem inX2 : ∀ w ∈ wsX20, w ∈ lw_tbl := fun w h => wsL_law_in w (inlX2 w h)
theorem inlX3 : ∀ w ∈ wsX30, w ∈ wsL_law := fun _ h => List.mem_append_left _ (List.mem_append_left _ (List.mem_append_left _ (List.mem_append_left _ (List.mem_append_left _ (List.mem_append_left _ (List.mem_append_left _ (List.mem_append_left _ (List.mem_append_right _ h))))))))
theorem inX3 : ∀ w ∈ wsX30, w ∈ lw_tbl := fun w h => wsL_law_in w (inlX3 w h)
theorem inlX4 : ∀ w ∈ wsX40, w ∈ wsL_law := fun _ h => List.mem_append_left _ (List.mem_append_left _ (List.mem_append_left _ (List.mem_append_left _ (List.mem_append_left _ (List.mem_append_left _ (List.mem_append_left _ (List.mem_append_right _ h)))))))
theorem inX4 : ∀ w ∈ wsX40, w ∈ lw_tbl := fun w h => wsL_law_in w (inlX4 w h)
theorem inJ9 : ∀ w ∈ wsJ90, w ∈ lw_tbl := by decide +kernel
theorem inJ0 : ∀ w ∈ wsJ00, w ∈ lw_tbl := by decide +kernel
end
section
/-! rows of my own over the kit: one row a call, one a branch over small numbers -/
abbrev TY (cI cZ : ClassId) : List (ClassId × FieldType) := [(cI, .int), (cZ, .boolean)]
/-- what the tables say of nest mates and of texts -/
def NX (U : State) : Prop :=
  (va_Nw (.methodLinkNest RX2 29 yX3_isPacket RX3) U ∧ va_Nw (.methodLinkNest RX0 50 yX3_isFrame RX3) U ∧ va_Nw (.methodLinkNest RX3 18 yX2_init RX3) U ∧ va_Nw (.methodLinkNest RX3 11 yX1_init RX3) U) ∧
  (va_Nw (.fieldLinkNest RX3 95 RX1 "polling" "Z" RX3) U ∧ va_Nw (.fieldLinkNest RX3 92 RX1 "lostCount" "I" RX3) U ∧ va_Nw (.fieldLinkNest RX3 71 RX1 "count" "I" RX3) U ∧ va_Nw (.fieldLinkNest RX3 53 RX1 "load" "I" RX3) U ∧ va_Nw (.fieldLinkNest RX3 50 RX1 "patience" "I" RX3) U ∧ va_Nw (.fieldLinkNest RX3 47 RX1 "join" "I" RX3) U ∧ va_Nw (.fieldLinkNest RX3 43 RX1 "size" "I" RX3) U) ∧
  (va_Nw (.fieldLinkNest RX3 141 RX0 "shownCount" "I" RX3) U ∧ va_Nw (.fieldLinkNest RX3 135 RX0 "turnTick" "I" RX3) U ∧ va_Nw (.fieldLinkNest RX3 132 RX0 "nextFrame" "I" RX3) U ∧ va_Nw (.fieldLinkNest RX3 129 RX0 "fates" "[I" RX3) U) ∧
  (va_Nw (.fieldLinkNest RX3 107 RX2 "askedRow" "[I" RX3) U ∧ va_Nw (.fieldLinkNest RX3 102 RX2 "askedCount" "I" RX3) U) ∧
  ((∃ a, vk_R RX3 38 "an argument is out of range" a U) ∧ (∃ a, vk_R RX3 62 "no such packet" a U) ∧ (∃ a, vk_R RX3 74 "no such packets" a U) ∧ (∃ a, vk_R RX3 76 "many is out of range" a U) ∧ (∃ a, vk_R RX3 78 "ticks is out of range" a U) ∧ (∃ a, vk_R RX3 82 "the tick would be above the last one" a U) ∧ (∃ a, vk_R RX3 105 "not so many were asked for" a U) ∧ (∃ a, vk_R RX3 114 "no such frame" a U))
theorem NX.warm {s U : State} (hW : s.WarmedH U.vm) (h : NX s) : NX U := by
  obtain ⟨⟨m1, m2, m3, m4⟩, ⟨f1, f2, f3, f4, f5, f6, f7⟩, ⟨g1, g2, g3, g4⟩, ⟨k1, k2⟩, ⟨a1, r1⟩, ⟨a2, r2⟩, ⟨a3, r3⟩, ⟨a4, r4⟩, ⟨a5, r5⟩, ⟨a6, r6⟩, ⟨a7, r7⟩, ⟨a8, r8⟩⟩ := h
  exact ⟨⟨va_Nw.warmM hW m1, va_Nw.warmM hW m2, va_Nw.warmM hW m3, va_Nw.warmM hW m4⟩, ⟨va_Nw.warmF hW f1, va_Nw.warmF hW f2, va_Nw.warmF hW f3, va_Nw.warmF hW f4, va_Nw.warmF hW f5, va_Nw.warmF hW f6, va_Nw.warmF hW f7⟩, ⟨va_Nw.warmF hW g1, va_Nw.warmF hW g2, va_Nw.warmF hW g3, va_Nw.warmF hW g4⟩, ⟨va_Nw.warmF hW k1, va_Nw.warmF hW k2⟩, ⟨a1, vk_R.warm hW r1⟩, ⟨a2, vk_R.warm hW r2⟩, ⟨a3, vk_R.warm hW r3⟩, ⟨a4, vk_R.warm hW r4⟩, ⟨a5, vk_R.warm hW r5⟩, ⟨a6, vk_R.warm hW r6⟩, ⟨a7, vk_R.warm hW r7⟩, ⟨a8, vk_R.warm hW r8⟩⟩
theorem NX.same {s U : State} (hv : U.vm = s.vm) (h : NX s) : NX U := by
  obtain ⟨⟨m1, m2, m3, m4⟩, ⟨f1, f2, f3, f4, f5, f6, f7⟩, ⟨g1, g2, g3, g4⟩, ⟨k1, k2⟩, ⟨a1, r1⟩, ⟨a2, r2⟩, ⟨a3, r3⟩, ⟨a4, r4⟩, ⟨a5, r5⟩, ⟨a6, r6⟩, ⟨a7, r7⟩, ⟨a8, r8⟩⟩ := h
  exact ⟨⟨va_Nw.same rfl hv.symm m1, va_Nw.same rfl hv.symm m2, va_Nw.same rfl hv.symm m3, va_Nw.same rfl hv.symm m4⟩, ⟨va_Nw.same rfl hv.symm f1, va_Nw.same rfl hv.symm f2, va_Nw.same rfl hv.symm f3, va_Nw.same rfl hv.symm f4, va_Nw.same rfl hv.symm f5, va_Nw.same rfl hv.symm f6, va_Nw.same rfl hv.symm f7⟩, ⟨va_Nw.same rfl hv.symm g1, va_Nw.same rfl hv.symm g2, va_Nw.same rfl hv.symm g3, va_Nw.same rfl hv.symm g4⟩, ⟨va_Nw.same rfl hv.symm k1, va_Nw.same rfl hv.symm k2⟩, ⟨a1, vk_R.same hv r1⟩, ⟨a2, vk_R.same hv r2⟩, ⟨a3, vk_R.same hv r3⟩, ⟨a4, vk_R.same hv r4⟩, ⟨a5, vk_R.same hv r5⟩, ⟨a6, vk_R.same hv r6⟩, ⟨a7, vk_R.same hv r7⟩, ⟨a8, vk_R.same hv r8⟩⟩
def kPre (D : va_G) (tys : List (ClassId × FieldType)) (ws : va_W) (sz : Nat) (U : State) : Prop := U.heap.size = sz ∧ va_P D vwCl ws U.heap ∧ va_K D vwCl tys U ∧ va_D (fun _ => True) ws ∧ NX U
def kB {S : Type} (D : va_G) (A : Nat → Prop) (wf : S → va_W) : S → State → Prop := fun u t => va_P D vwCl (wf u) t.heap ∧ va_D A (wf u)
theorem kblind {av : List Value} {D : va_G} {tys : List (ClassId × FieldType)} {ws : va_W} {sz : Nat} : FrameBlind (va_Pc av (kPre D tys ws sz)) := by
  intro a U g mk q
  obtain ⟨q0, q1, qP, qK, qD, qN⟩ := q
  exact ⟨q0, q1, qP, va_K.moved (u := U) (U := U.calling g mk a) (Vm.Alike.refl U.vm) qK, qD, NX.same (s := U) (U := U.calling g mk a) rfl qN⟩
/-- a method that answers an int, makes nothing, throws nothing -/
def kMi (l : Launch) (y : MethodName) (w : List Cond) (fr lo : Nat) (D : va_G) (tys : List (ClassId × FieldType)) (av : List Value) (ws : va_W) {S : Type} (post : Int32 → S → Prop) (wf : S → va_W) : Prop :=
  ∀ sz : Nat, Met l y w ({ frames := fr, cells := 0, slots := 0, locals := lo } : Room) (va_Pc av (kPre D tys ws sz)) (va_Qi post (kB D (va_A ws sz) wf) (va_A ws sz)) 0 0 (va_A ws sz)
def kMv (l : Launch) (y : MethodName) (w : List Cond) (fr lo : Nat) (D : va_G) (tys : List (ClassId × FieldType)) (av : List Value) (ws : va_W) {S : Type} (post : S → Prop) (wf : S → va_W) : Prop :=
  ∀ sz : Nat, Met l y w ({ frames := fr, cells := 0, slots := 0, locals := lo } : Room) (va_Pc av (kPre D tys ws sz)) (va_Qv post (kB D (va_A ws sz) wf) (va_A ws sz)) 0 0 (va_A ws sz)
/-- into a method's body -/
theorem k_in {l : Launch} {y : MethodName} {w w' : List Cond} {cc : ByteArray} {maxL : Nat} {ret : Option FieldType} {rm : Room} {D : va_G} {tys : List (ClassId × FieldType)} {av : List Value} {ws : va_W} {sz mc ms : Nat} {Qc : (Nat → Prop) → Array Value → State → Outcome → State → Prop}
    (hy : plainName y.cls = true) (hw : w = Cond.code y cc maxL ret :: w') (hn : (lg_sl av).length ≤ maxL)
    (body : ∀ (p : Program) (e : Env) (s : State) (m : MethodId) (below : List Frame) (meth : Method) (c : Code) (A : Nat → Prop) (ls : Array Slot),
      CallFix p m c cc maxL s av.toArray w y.cls → meth.sig.returnType = ret → meth.locks = false → NX s → va_P D vwCl ws s.heap → va_K D vwCl tys s → va_D A ws → (∀ q, s.heap.size ≤ q → A q) → va_S A s.heap s.heap [] → lv_has ls maxL (lv_args 0 av) →
      W p l e rm s m av.toArray below meth c s.heap [] 0 0 (MQ below (Qc A) av.toArray s mc ms A) (F0 m 0 ls [])) :
    Met l y w rm (va_Pc av (kPre D tys ws sz)) (Qc (va_A ws sz)) mc ms (va_A ws sz) := by
  refine Met.ofW (cc := cc) (maxL := maxL) (ret := ret) hy hw ?_
  intro p e s m args below meth c s₁ B hml hv
  obtain ⟨rfl, hsz, hP, hK, hD0, hN⟩ := hv
  subst hsz
  rw [lg_entry_eq]
  exact body p e s m below meth c (va_A ws s.heap.size) _ ⟨B.exec, B.bytes, hml, findClass_of_methodNamed B.named, atoms_spec (ws := w) B.pre⟩ B.returns B.notSynchronized hN hP hK hD0.self (fun q h => Or.inr h) va_S.rf (lv_entry av hn)
theorem k_fm {α β : Type} {f : α → Option β} {l : List α} {r : List β} (h : l.map f = r.map some) : l.filterMap f = r := by
  have h1 : l.filterMap f = (l.map f).filterMap id := by rw [List.filterMap_map]; rfl
  rw [h1, h, List.filterMap_map]
  simp
section KA
variable {p : Program} {l : Launch} {e : Env} {R : Room} {s : State} {m : MethodId} {args : Array Value} {below : List Frame} {meth : Method} {c : Code} {H H0 : Heap} {locs : List Loc} {cells slots : Nat} {Q : State → Prop} {cc : ByteArray} {pc : Nat} {ls : Array Slot} {rest : List Value} {A A0 : Nat → Prop} {D : va_G} {tys : List (ClassId × FieldType)} {ws wc wr : va_W}
theorem k_iret {S : Type} {post : Int32 → S → Prop} {wf : S → va_W} {v : Int32} {ty : FieldType} (hx : p.tables.exec = Jvm.exec) (hb : c.code = cc) (hr : meth.sig.returnType = some ty) (hlk : meth.locks = false) (hn : narrow ty (.int v) = .int v) (u : S) (hpost : post v u) (hP : va_P D vwCl (wf u) H) (hD : va_D A (wf u)) (hS : va_S A s.heap H locs) (hdg : decode cc pc = .ok (.ireturn, 1)) :
    W p l e R s m args below meth c H locs cells slots (MQ below (va_Qi post (kB D A wf) A) args s cells slots A) (F0 m pc ls [.int v]) :=
  W.zret hx hb hr hn (fun t ht _ => ⟨⟨v, u, rfl, hpost, by rw [ht]; exact hP, hD⟩, hS.F ht⟩) hS.2.2 hdg hlk
theorem k_vret {S : Type} {post : S → Prop} {wf : S → va_W} (hx : p.tables.exec = Jvm.exec) (hb : c.code = cc) (hr : meth.sig.returnType = none) (hlk : meth.locks = false) (u : S) (hpost : post u) (hP : va_P D vwCl (wf u) H) (hD : va_D A (wf u)) (hS : va_S A s.heap H locs) (hdg : decode cc pc = .ok (.return_, 1)) :
    W p l e R s m args below meth c H locs cells slots (MQ below (va_Qv post (kB D A wf) A) args s cells slots A) (F0 m pc ls []) :=
  W.vret hx hb hr (fun t ht _ => ⟨⟨u, rfl, hpost, by rw [ht]; exact hP, hD⟩, hS.F ht⟩) hS.2.2 hdg hlk
/-- what the callee wants, from the caller's world -/
theorem k_pre {As : List Value} (hN : NX s) (hK : va_K D vwCl tys s) (hP : va_P D vwCl ws H) (hD : va_D A0 ws) (isC : List Nat) (hC : isC.map (fun i => ws[i]?) = wc.map some) (hnC : va_nd isC = true) : ∀ U : State, U.heap = H → s.WarmedH U.vm → va_Pc As (kPre D tys wc H.size) As.toArray U := fun U hU hW =>
  ⟨rfl, by rw [hU], by rw [hU]; exact hP.sub isC (k_fm hC), va_K.moved hW.alike hK, (hD.sub isC hnC hC).weaken (fun _ _ _ _ => trivial), hN.warm hW⟩
theorem k_calli {S : Type} {post : Int32 → S → Prop} {wf : S → va_W} {a : Array Value} {st0 : List Value} (hS : va_S A0 H0 H locs) (hP : va_P D vwCl ws H) (hD : va_D A0 ws) (hA : ∀ q, H0.size ≤ q → A0 q) (isC isR : List Nat) (hC : isC.map (fun i => ws[i]?) = wc.map some) (hR : isR.map (fun i => ws[i]?) = wr.map some) (hn : va_nd isR = true) (hdis : ∀ i ∈ isR, i ∉ isC)
    (hr : va_Run p l e R s m args below meth c H locs cells slots 0 0 (F0 m pc ls st0) rest (va_Qi post (kB D (va_A wc H.size) wf) (va_A wc H.size) a) (va_A wc H.size))
    (kk : ∀ (r : Int32) (u : S) (H1 : Heap) (locs1 : List Loc), post r u → va_P D vwCl (wr ++ wf u) H1 → va_D A0 (wr ++ wf u) → va_S A0 H0 H1 locs1 → W p l e R s m args below meth c H1 locs1 cells slots Q (F0 m (pc + 3) ls (.int r :: rest))) : W p l e R s m args below meth c H locs cells slots Q (F0 m pc ls st0) := by
  have hF := va_free hD hS hA isC hC
  refine va_calli hr hS (fun q _ h => hF q h) hF (fun r u t H1 locs1 ht hvm hw hB hz1 hk1 hS1 => ?_)
  obtain ⟨hP1, hD1⟩ := hB
  rw [ht] at hP1
  obtain ⟨hP2, hD2⟩ := va_join hP hD isC isR hC hR hn hdis hk1 hF hP1 hD1
  exact kk r u H1 locs1 hw hP2 hD2 hS1
theorem k_callv {S : Type} {post : S → Prop} {wf : S → va_W} {a : Array Value} {st0 : List Value} (hS : va_S A0 H0 H locs) (hP : va_P D vwCl ws H) (hD : va_D A0 ws) (hA : ∀ q, H0.size ≤ q → A0 q) (isC isR : List Nat) (hC : isC.map (fun i => ws[i]?) = wc.map some) (hR : isR.map (fun i => ws[i]?) = wr.map some) (hn : va_nd isR = true) (hdis : ∀ i ∈ isR, i ∉ isC)
    (hr : va_Run p l e R s m args below meth c H locs cells slots 0 0 (F0 m pc ls st0) rest (va_Qv post (kB D (va_A wc H.size) wf) (va_A wc H.size) a) (va_A wc H.size))
    (kk : ∀ (u : S) (H1 : Heap) (locs1 : List Loc), post u → va_P D vwCl (wr ++ wf u) H1 → va_D A0 (wr ++ wf u) → va_S A0 H0 H1 locs1 → W p l e R s m args below meth c H1 locs1 cells slots Q (F0 m (pc + 3) ls rest)) : W p l e R s m args below meth c H locs cells slots Q (F0 m pc ls st0) := by
  have hF := va_free hD hS hA isC hC
  refine va_callv hr hS (fun q _ h => hF q h) hF (fun u t H1 locs1 ht hvm hw hB hz1 hk1 hS1 => ?_)
  obtain ⟨hP1, hD1⟩ := hB
  rw [ht] at hP1
  obtain ⟨hP2, hD2⟩ := va_join hP hD isC isR hC hR hn hdis hk1 hF hP1 hD1
  exact kk u H1 locs1 hw hP2 hD2 hS1
/-! small numbers -/
theorem k_iconst (hx : p.tables.exec = Jvm.exec) (hb : c.code = cc) (n : Nat) (hdg : decode cc pc = .ok (.iconst (n : Int), 1)) (hv : Int32.ofInt (n : Int) = nI n) (k : W p l e R s m args below meth c H locs cells slots Q (F0 m (pc + 1) ls (.int (nI n) :: rest))) : W p l e R s m args below meth c H locs cells slots Q (F0 m pc ls rest) := lv_iconst hx hb hdg hv k
theorem k_iadd (hx : p.tables.exec = Jvm.exec) (hb : c.code = cc) {a b : Nat} (hdg : decode cc pc = .ok (.iadd, 1)) (k : W p l e R s m args below meth c H locs cells slots Q (F0 m (pc + 1) ls (.int (nI (a + b)) :: rest))) : W p l e R s m args below meth c H locs cells slots Q (F0 m pc ls (.int (nI b) :: .int (nI a) :: rest)) := by
  refine lv_iadd hx hb hdg ?_
  rw [nI_add]; exact k
theorem k_isub (hx : p.tables.exec = Jvm.exec) (hb : c.code = cc) {a b : Nat} (h : b ≤ a) (hdg : decode cc pc = .ok (.isub, 1)) (k : W p l e R s m args below meth c H locs cells slots Q (F0 m (pc + 1) ls (.int (nI (a - b)) :: rest))) : W p l e R s m args below meth c H locs cells slots Q (F0 m pc ls (.int (nI b) :: .int (nI a) :: rest)) := by
  refine lv_isub hx hb hdg ?_
  rw [pk_sub h]; exact k
theorem k_imul (hx : p.tables.exec = Jvm.exec) (hb : c.code = cc) {a b : Nat} (hdg : decode cc pc = .ok (.imul, 1)) (k : W p l e R s m args below meth c H locs cells slots Q (F0 m (pc + 1) ls (.int (nI (a * b)) :: rest))) : W p l e R s m args below meth c H locs cells slots Q (F0 m pc ls (.int (nI b) :: .int (nI a) :: rest)) := by
  refine lv_imul hx hb hdg ?_
  rw [pk_mul]; exact k
theorem k_idiv (hx : p.tables.exec = Jvm.exec) (hb : c.code = cc) {a b : Nat} (ha : a < 2 ^ 31) (h0 : 0 < b) (h : b < 2 ^ 31) (hdg : decode cc pc = .ok (.idiv, 1)) (k : W p l e R s m args below meth c H locs cells slots Q (F0 m (pc + 1) ls (.int (nI (a / b)) :: rest))) : W p l e R s m args below meth c H locs cells slots Q (F0 m pc ls (.int (nI b) :: .int (nI a) :: rest)) := by
  refine lv_idiv hx hb hdg (nI_ne0 h0 h) ?_
  rw [pk_div ha h0 h]; exact k
theorem k_irem (hx : p.tables.exec = Jvm.exec) (hb : c.code = cc) {a b : Nat} (ha : a < 2 ^ 31) (h0 : 0 < b) (h : b < 2 ^ 31) (hdg : decode cc pc = .ok (.irem, 1)) (k : W p l e R s m args below meth c H locs cells slots Q (F0 m (pc + 1) ls (.int (nI (a % b)) :: rest))) : W p l e R s m args below meth c H locs cells slots Q (F0 m pc ls (.int (nI b) :: .int (nI a) :: rest)) := by
  refine lv_irem hx hb hdg (nI_ne0 h0 h) ?_
  rw [pk_rem ha h0 h]; exact k
section BR
variable {a b tgt : Nat} {off : Int}
theorem k_icmp_eq (hx : p.tables.exec = Jvm.exec) (hb : c.code = cc) (h1 : a < 2 ^ 31) (h2 : b < 2 ^ 31) (hdg : decode cc pc = .ok (.if_icmp .eq off, 3)) (ht : (pc : Int) + off = (tgt : Int)) (kt : a = b → W p l e R s m args below meth c H locs cells slots Q (F0 m tgt ls rest)) (kf : a ≠ b → W p l e R s m args below meth c H locs cells slots Q (F0 m (pc + 3) ls rest)) : W p l e R s m args below meth c H locs cells slots Q (F0 m pc ls (.int (nI b) :: .int (nI a) :: rest)) :=
  lv_icmp_eq hx hb hdg ht (fun q => kt ((nI_eq h1 h2).mp q)) (fun q => kf (fun z => q ((nI_eq h1 h2).mpr z)))
theorem k_icmp_ne (hx : p.tables.exec = Jvm.exec) (hb : c.code = cc) (h1 : a < 2 ^ 31) (h2 : b < 2 ^ 31) (hdg : decode cc pc = .ok (.if_icmp .ne off, 3)) (ht : (pc : Int) + off = (tgt : Int)) (kt : a ≠ b → W p l e R s m args below meth c H locs cells slots Q (F0 m tgt ls rest)) (kf : a = b → W p l e R s m args below meth c H locs cells slots Q (F0 m (pc + 3) ls rest)) : W p l e R s m args below meth c H locs cells slots Q (F0 m pc ls (.int (nI b) :: .int (nI a) :: rest)) :=
  lv_icmp_ne hx hb hdg ht (fun q => kt (fun z => q ((nI_eq h1 h2).mpr z))) (fun q => kf ((nI_eq h1 h2).mp q))
theorem k_icmp_lt (hx : p.tables.exec = Jvm.exec) (hb : c.code = cc) (h1 : a < 2 ^ 31) (h2 : b < 2 ^ 31) (hdg : decode cc pc = .ok (.if_icmp .lt off, 3)) (ht : (pc : Int) + off = (tgt : Int)) (kt : a < b → W p l e R s m args below meth c H locs cells slots Q (F0 m tgt ls rest)) (kf : b ≤ a → W p l e R s m args below meth c H locs cells slots Q (F0 m (pc + 3) ls rest)) : W p l e R s m args below meth c H locs cells slots Q (F0 m pc ls (.int (nI b) :: .int (nI a) :: rest)) :=
  lv_icmp_lt hx hb hdg ht (fun q => kt ((nI_ltI h1 h2).mp q)) (fun q => kf (Nat.not_lt.mp (fun z => q ((nI_ltI h1 h2).mpr z))))
theorem k_icmp_ge (hx : p.tables.exec = Jvm.exec) (hb : c.code = cc) (h1 : a < 2 ^ 31) (h2 : b < 2 ^ 31) (hdg : decode cc pc = .ok (.if_icmp .ge off, 3)) (ht : (pc : Int) + off = (tgt : Int)) (kt : b ≤ a → W p l e R s m args below meth c H locs cells slots Q (F0 m tgt ls rest)) (kf : a < b → W p l e R s m args below meth c H locs cells slots Q (F0 m (pc + 3) ls rest)) : W p l e R s m args below meth c H locs cells slots Q (F0 m pc ls (.int (nI b) :: .int (nI a) :: rest)) :=
  lv_icmp_ge hx hb hdg ht (fun q => kt ((nI_leI h2 h1).mp q)) (fun q => kf (Nat.not_le.mp (fun z => q ((nI_leI h2 h1).mpr z))))
theorem k_icmp_gt (hx : p.tables.exec = Jvm.exec) (hb : c.code = cc) (h1 : a < 2 ^ 31) (h2 : b < 2 ^ 31) (hdg : decode cc pc = .ok (.if_icmp .gt off, 3)) (ht : (pc : Int) + off = (tgt : Int)) (kt : b < a → W p l e R s m args below meth c H locs cells slots Q (F0 m tgt ls rest)) (kf : a ≤ b → W p l e R s m args below meth c H locs cells slots Q (F0 m (pc + 3) ls rest)) : W p l e R s m args below meth c H locs cells slots Q (F0 m pc ls (.int (nI b) :: .int (nI a) :: rest)) :=
  lv_icmp_gt hx hb hdg ht (fun q => kt ((nI_ltI h2 h1).mp q)) (fun q => kf (Nat.not_lt.mp (fun z => q ((nI_ltI h2 h1).mpr z))))
theorem k_icmp_le (hx : p.tables.exec = Jvm.exec) (hb : c.code = cc) (h1 : a < 2 ^ 31) (h2 : b < 2 ^ 31) (hdg : decode cc pc = .ok (.if_icmp .le off, 3)) (ht : (pc : Int) + off = (tgt : Int)) (kt : a ≤ b → W p l e R s m args below meth c H locs cells slots Q (F0 m tgt ls rest)) (kf : b < a → W p l e R s m args below meth c H locs cells slots Q (F0 m (pc + 3) ls rest)) : W p l e R s m args below meth c H locs cells slots Q (F0 m pc ls (.int (nI b) :: .int (nI a) :: rest)) :=
  lv_icmp_le hx hb hdg ht (fun q => kt ((nI_leI h1 h2).mp q)) (fun q => kf (Nat.not_le.mp (fun z => q ((nI_leI h1 h2).mpr z))))
theorem k_if_eq (hx : p.tables.exec = Jvm.exec) (hb : c.code = cc) (h1 : a < 2 ^ 31) (hdg : decode cc pc = .ok (.ifCond .eq off, 3)) (ht : (pc : Int) + off = (tgt : Int)) (kt : a = 0 → W p l e R s m args below meth c H locs cells slots Q (F0 m tgt ls rest)) (kf : a ≠ 0 → W p l e R s m args below meth c H locs cells slots Q (F0 m (pc + 3) ls rest)) : W p l e R s m args below meth c H locs cells slots Q (F0 m pc ls (.int (nI a) :: rest)) :=
  lv_if_eq hx hb hdg ht (fun q => kt ((nI_eq (b := 0) h1 (Nat.le_of_ble_eq_true rfl)).mp q)) (fun q => kf (fun z => q (by rw [z]; rfl)))
theorem k_if_ne (hx : p.tables.exec = Jvm.exec) (hb : c.code = cc) (h1 : a < 2 ^ 31) (hdg : decode cc pc = .ok (.ifCond .ne off, 3)) (ht : (pc : Int) + off = (tgt : Int)) (kt : a ≠ 0 → W p l e R s m args below meth c H locs cells slots Q (F0 m tgt ls rest)) (kf : a = 0 → W p l e R s m args below meth c H locs cells slots Q (F0 m (pc + 3) ls rest)) : W p l e R s m args below meth c H locs cells slots Q (F0 m pc ls (.int (nI a) :: rest)) :=
  lv_if_ne hx hb hdg ht (fun q => kt (fun z => q (by rw [z]; rfl))) (fun q => kf ((nI_eq (b := 0) h1 (Nat.le_of_ble_eq_true rfl)).mp q))
theorem k_if_lt (hx : p.tables.exec = Jvm.exec) (hb : c.code = cc) (h1 : a < 2 ^ 31) (hdg : decode cc pc = .ok (.ifCond .lt off, 3)) (ht : (pc : Int) + off = (tgt : Int)) (kf : W p l e R s m args below meth c H locs cells slots Q (F0 m (pc + 3) ls rest)) : W p l e R s m args below meth c H locs cells slots Q (F0 m pc ls (.int (nI a) :: rest)) :=
  lv_if_lt hx hb hdg ht (fun q => absurd q (nI_pos h1)) (fun _ => kf)
theorem k_if_le (hx : p.tables.exec = Jvm.exec) (hb : c.code = cc) (h1 : a < 2 ^ 31) (hdg : decode cc pc = .ok (.ifCond .le off, 3)) (ht : (pc : Int) + off = (tgt : Int)) (kt : a = 0 → W p l e R s m args below meth c H locs cells slots Q (F0 m tgt ls rest)) (kf : 0 < a → W p l e R s m args below meth c H locs cells slots Q (F0 m (pc + 3) ls rest)) : W p l e R s m args below meth c H locs cells slots Q (F0 m pc ls (.int (nI a) :: rest)) :=
  lv_if_le hx hb hdg ht (fun q => kt (Nat.le_zero.mp ((nI_leI (b := 0) h1 (Nat.le_of_ble_eq_true rfl)).mp q))) (fun q => kf (Nat.pos_of_ne_zero (fun z => q (by rw [z]; exact Int32.le_refl _))))
end BR
section AR
variable {q0 t0 ad i n : Nat} {cA : ClassId} {f : Nat → Int32} {x : Int32}
theorem k_iald (hx : p.tables.exec = Jvm.exec) (hb : c.code = cc) (hK : va_K D vwCl tys s) (hP : va_P D vwCl ws H) (q0 t0 : Nat) (ha : ws[q0]? = some (ad, .inl (cA, n, .inl f))) (ht : tys[t0]? = some (cA, .int)) (hi : i < n) (hn : n < 2 ^ 31) (hdg : decode cc pc = .ok (.iaload, 1)) (k : W p l e R s m args below meth c H locs cells slots Q (F0 m (pc + 1) ls (.int (f i) :: rest))) : W p l e R s m args below meth c H locs cells slots Q (F0 m pc ls (.int (nI i) :: .ref ad :: rest)) := by
  refine va_iald hx hb hK hP q0 t0 ha ht (vp_in_nI hi hn) hdg ?_
  rw [nI_clamp (Nat.lt_trans hi hn)]; exact k
theorem k_zald (hx : p.tables.exec = Jvm.exec) (hb : c.code = cc) (hK : va_K D vwCl tys s) (hP : va_P D vwCl ws H) (q0 t0 : Nat) (ha : ws[q0]? = some (ad, .inl (cA, n, .inl f))) (ht : tys[t0]? = some (cA, .boolean)) (hi : i < n) (hn : n < 2 ^ 31) (hdg : decode cc pc = .ok (.baload, 1)) (k : W p l e R s m args below meth c H locs cells slots Q (F0 m (pc + 1) ls (.int (f i) :: rest))) : W p l e R s m args below meth c H locs cells slots Q (F0 m pc ls (.int (nI i) :: .ref ad :: rest)) := by
  refine va_zald hx hb hK hP q0 t0 ha ht (vp_in_nI hi hn) hdg ?_
  rw [nI_clamp (Nat.lt_trans hi hn)]; exact k
theorem k_iast (hx : p.tables.exec = Jvm.exec) (hb : c.code = cc) (hK : va_K D vwCl tys s) (hP : va_P D vwCl ws H) (hD : va_D A ws) (hS : va_S A H0 H locs) (q0 t0 : Nat) (ha : ws[q0]? = some (ad, .inl (cA, n, .inl f))) (ht : tys[t0]? = some (cA, .int)) (hi : i < n) (hn : n < 2 ^ 31) (hdg : decode cc pc = .ok (.iastore, 1))
    (kk : ∀ (H1 : Heap) (locs1 : List Loc), va_P D vwCl (ws.set q0 (ad, .inl (cA, n, .inl (upd f i x)))) H1 → va_D A (ws.set q0 (ad, .inl (cA, n, .inl (upd f i x)))) → va_S A H0 H1 locs1 → W p l e R s m args below meth c H1 locs1 cells slots Q (F0 m (pc + 1) ls rest)) : W p l e R s m args below meth c H locs cells slots Q (F0 m pc ls (.int x :: .int (nI i) :: .ref ad :: rest)) := by
  refine va_iast hx hb hK hP hD hS q0 t0 ha ht (vp_in_nI hi hn) hdg ?_
  rw [nI_clamp (Nat.lt_trans hi hn)]; exact kk
theorem k_zast (hx : p.tables.exec = Jvm.exec) (hb : c.code = cc) (hK : va_K D vwCl tys s) (hP : va_P D vwCl ws H) (hD : va_D A ws) (hS : va_S A H0 H locs) (q0 t0 : Nat) (ha : ws[q0]? = some (ad, .inl (cA, n, .inl f))) (ht : tys[t0]? = some (cA, .boolean)) (hi : i < n) (hn : n < 2 ^ 31) (hv : vp_nar .boolean x = x) (hdg : decode cc pc = .ok (.bastore, 1))
    (kk : ∀ (H1 : Heap) (locs1 : List Loc), va_P D vwCl (ws.set q0 (ad, .inl (cA, n, .inl (upd f i x)))) H1 → va_D A (ws.set q0 (ad, .inl (cA, n, .inl (upd f i x)))) → va_S A H0 H1 locs1 → W p l e R s m args below meth c H1 locs1 cells slots Q (F0 m (pc + 1) ls rest)) : W p l e R s m args below meth c H locs cells slots Q (F0 m pc ls (.int x :: .int (nI i) :: .ref ad :: rest)) := by
  refine va_zast hx hb hK hP hD hS q0 t0 ha ht (vp_in_nI hi hn) hdg ?_
  rw [nI_clamp (Nat.lt_trans hi hn), hv]; exact kk
end AR
section CL
variable {S : Type} {y : MethodName} {w w' Ts : List Cond} {fr lo maxL idx n ci nL : Nat} {bytes : ByteArray} {ret : Option FieldType} {own : String} {As st0 : List Value} {b q0 : Nat} {qc : vw_C} {fs : List Value}
theorem k_callVi {post : Int32 → S → Prop} {wf : S → va_W} (F : CallFix p m c cc nL s args Ts own) (hN : NX s) (hK : va_K D vwCl tys s) (hP : va_P D vwCl ws H) (hD : va_D A0 ws) (hS : va_S A0 H0 H locs) (hA : ∀ q, H0.size ≤ q → A0 q) (hsize : ls.size = nL)
    (hM : kMi l y w fr lo D tys (.ref b :: As) wc post wf) (hG : GoodIn Ts (wsV own idx qc.1 y w)) (hw : w = Cond.code y bytes maxL ret :: w')
    (hd : y.cls = qc.1 ∧ y.cls ≠ "java/lang/invoke/MethodHandle" ∧ y.cls ≠ "java/lang/invoke/VarHandle" ∧ (parseMethodDescriptor y.desc).map (fun d => d.parameters.length) = some n) (hn0 : As.length = n)
    (hrm : fr + 1 ≤ R.frames ∧ 8 + (maxL + 11) + lo ≤ R.locals) (isC isR : List Nat) (hC : isC.map (fun i => ws[i]?) = wc.map some) (hR : isR.map (fun i => ws[i]?) = wr.map some) (hnC : va_nd isC = true) (hn : va_nd isR = true) (hdis : ∀ i ∈ isR, i ∉ isC)
    (q0 : Nat) (hc : vwCl[ci]? = some qc) (he : ws[q0]? = some (b, .inr (ci, fs))) (hstack : st0 = As.reverse ++ .ref b :: rest) (hW : (rest.map fun v => v.category).sum ≤ 8) (hcr : cells ≤ R.cells ∧ slots ≤ R.slots) (hdg : decode cc pc = .ok (.invokevirtual idx, 3))
    (kk : ∀ (r : Int32) (u : S) (H1 : Heap) (locs1 : List Loc), post r u → va_P D vwCl (wr ++ wf u) H1 → va_D A0 (wr ++ wf u) → va_S A0 H0 H1 locs1 → W p l e R s m args below meth c H1 locs1 cells slots Q (F0 m (pc + 3) ls (.int r :: rest))) : W p l e R s m args below meth c H locs cells slots Q (F0 m pc ls st0) := by
  refine k_calli hS hP hD hA isC isR hC hR hn hdis (va_runV (As := As) (rest := rest) F (hM H.size) (cwV n F.2.2.2.2 hG hw rfl rfl hd hrm) ⟨kblind, va_recv hK hP hc he, k_pre hN hK hP hD isC hC hnC⟩ rfl hn0 hsize hstack (lv_room hW) hdg hcr) kk
theorem k_callVv {post : S → Prop} {wf : S → va_W} (F : CallFix p m c cc nL s args Ts own) (hN : NX s) (hK : va_K D vwCl tys s) (hP : va_P D vwCl ws H) (hD : va_D A0 ws) (hS : va_S A0 H0 H locs) (hA : ∀ q, H0.size ≤ q → A0 q) (hsize : ls.size = nL)
    (hM : kMv l y w fr lo D tys (.ref b :: As) wc post wf) (hG : GoodIn Ts (wsV own idx qc.1 y w)) (hw : w = Cond.code y bytes maxL ret :: w')
    (hd : y.cls = qc.1 ∧ y.cls ≠ "java/lang/invoke/MethodHandle" ∧ y.cls ≠ "java/lang/invoke/VarHandle" ∧ (parseMethodDescriptor y.desc).map (fun d => d.parameters.length) = some n) (hn0 : As.length = n)
    (hrm : fr + 1 ≤ R.frames ∧ 8 + (maxL + 11) + lo ≤ R.locals) (isC isR : List Nat) (hC : isC.map (fun i => ws[i]?) = wc.map some) (hR : isR.map (fun i => ws[i]?) = wr.map some) (hnC : va_nd isC = true) (hn : va_nd isR = true) (hdis : ∀ i ∈ isR, i ∉ isC)
    (q0 : Nat) (hc : vwCl[ci]? = some qc) (he : ws[q0]? = some (b, .inr (ci, fs))) (hstack : st0 = As.reverse ++ .ref b :: rest) (hW : (rest.map fun v => v.category).sum ≤ 8) (hcr : cells ≤ R.cells ∧ slots ≤ R.slots) (hdg : decode cc pc = .ok (.invokevirtual idx, 3))
    (kk : ∀ (u : S) (H1 : Heap) (locs1 : List Loc), post u → va_P D vwCl (wr ++ wf u) H1 → va_D A0 (wr ++ wf u) → va_S A0 H0 H1 locs1 → W p l e R s m args below meth c H1 locs1 cells slots Q (F0 m (pc + 3) ls rest)) : W p l e R s m args below meth c H locs cells slots Q (F0 m pc ls st0) := by
  refine k_callv hS hP hD hA isC isR hC hR hn hdis (va_runV (As := As) (rest := rest) F (hM H.size) (cwV n F.2.2.2.2 hG hw rfl rfl hd hrm) ⟨kblind, va_recv hK hP hc he, k_pre hN hK hP hD isC hC hnC⟩ rfl hn0 hsize hstack (lv_room hW) hdg hcr) kk
/-- a static method that touches nothing -/
theorem k_callSi {post : Int32 → S → Prop} {wf : S → va_W} (F : CallFix p m c cc nL s args Ts own) (hN : NX s) (hK : va_K D vwCl tys s) (hP : va_P D vwCl ws H) (hD : va_D A0 ws) (hS : va_S A0 H0 H locs) (hA : ∀ q, H0.size ≤ q → A0 q) (hsize : ls.size = nL)
    (hM : kMi l y w fr lo D tys As [] post wf) (hwf : ∀ u, wf u = []) (hG : GoodIn Ts (va_wsS own idx y w)) (hw : w = Cond.code y bytes maxL ret :: w')
    (hd : y.cls ≠ "java/lang/invoke/MethodHandle" ∧ y.cls ≠ "java/lang/invoke/VarHandle" ∧ (parseMethodDescriptor y.desc).map (fun d => d.parameters.length) = some n) (hn0 : As.length = n)
    (hrm : fr + 1 ≤ R.frames ∧ 8 + (maxL + 11) + lo ≤ R.locals) (isR : List Nat) (hR : isR.map (fun i => ws[i]?) = ws.map some) (hn : va_nd isR = true)
    (hstack : st0 = As.reverse ++ rest) (hW : (rest.map fun v => v.category).sum ≤ 8) (hcr : cells ≤ R.cells ∧ slots ≤ R.slots) (hdg : decode cc pc = .ok (.invokestatic idx, 3))
    (kk : ∀ (r : Int32) (u : S) (H1 : Heap) (locs1 : List Loc), post r u → va_P D vwCl ws H1 → va_D A0 ws → va_S A0 H0 H1 locs1 → W p l e R s m args below meth c H1 locs1 cells slots Q (F0 m (pc + 3) ls (.int r :: rest))) : W p l e R s m args below meth c H locs cells slots Q (F0 m pc ls st0) := by
  refine k_calli (wc := []) hS hP hD hA [] isR rfl hR hn (fun _ _ h => by cases h) (va_runS (As := As) (rest := rest) F (hM H.size) (va_cwS n F.2.2.2.2 hG hw rfl rfl hd hrm) ⟨kblind, k_pre hN hK hP hD [] rfl rfl⟩ rfl hn0 hsize hstack (lv_room hW) hdg hcr) (fun r u H1 locs1 h1 h2 h3 h4 => kk r u H1 locs1 h1 (by rw [hwf u, List.append_nil] at h2; exact h2) (by rw [hwf u, List.append_nil] at h3; exact h3) h4)
/-- the same, of a nest mate -/
theorem k_callNi {host : String} {post : Int32 → S → Prop} {wf : S → va_W} (F : CallFix p m c cc nL s args Ts own) (hN : NX s) (hK : va_K D vwCl tys s) (hP : va_P D vwCl ws H) (hD : va_D A0 ws) (hS : va_S A0 H0 H locs) (hA : ∀ q, H0.size ≤ q → A0 q) (hsize : ls.size = nL)
    (hM : kMi l y w fr lo D tys As [] post wf) (hwf : ∀ u, wf u = []) (hG : GoodIn Ts w) (hw : w = Cond.code y bytes maxL ret :: w') (hl : va_Nw (.methodLinkNest own idx y host) s) (hini : (Cond.initialized y.cls).before args s = true) (hst : (Cond.static y).before args s = true)
    (hd : y.cls ≠ "java/lang/invoke/MethodHandle" ∧ y.cls ≠ "java/lang/invoke/VarHandle" ∧ (parseMethodDescriptor y.desc).map (fun d => d.parameters.length) = some n) (hn0 : As.length = n)
    (hrm : fr + 1 ≤ R.frames ∧ 8 + (maxL + 11) + lo ≤ R.locals) (isR : List Nat) (hR : isR.map (fun i => ws[i]?) = ws.map some) (hn : va_nd isR = true)
    (hstack : st0 = As.reverse ++ rest) (hW : (rest.map fun v => v.category).sum ≤ 8) (hcr : cells ≤ R.cells ∧ slots ≤ R.slots) (hdg : decode cc pc = .ok (.invokestatic idx, 3))
    (kk : ∀ (r : Int32) (u : S) (H1 : Heap) (locs1 : List Loc), post r u → va_P D vwCl ws H1 → va_D A0 ws → va_S A0 H0 H1 locs1 → W p l e R s m args below meth c H1 locs1 cells slots Q (F0 m (pc + 3) ls (.int r :: rest))) : W p l e R s m args below meth c H locs cells slots Q (F0 m pc ls st0) := by
  refine k_calli (wc := []) hS hP hD hA [] isR rfl hR hn (fun _ _ h => by cases h) (va_runSN (As := As) (rest := rest) F (hM H.size) ⟨va_cnB n F.2.2.2.2 hG hw rfl rfl hl hini hd hrm, hst, trivial⟩ ⟨kblind, k_pre hN hK hP hD [] rfl rfl⟩ rfl hn0 hsize hstack (lv_room hW) hdg hcr) (fun r u H1 locs1 h1 h2 h3 h4 => kk r u H1 locs1 h1 (by rw [hwf u, List.append_nil] at h2; exact h2) (by rw [hwf u, List.append_nil] at h3; exact h3) h4)
end CL
end KA
theorem NX.m29 {U : State} (h : NX U) : va_Nw (.methodLinkNest RX2 29 yX3_isPacket RX3) U := h.1.1
theorem NX.m50 {U : State} (h : NX U) : va_Nw (.methodLinkNest RX0 50 yX3_isFrame RX3) U := h.1.2.1
theorem NX.m18 {U : State} (h : NX U) : va_Nw (.methodLinkNest RX3 18 yX2_init RX3) U := h.1.2.2.1
theorem NX.m11 {U : State} (h : NX U) : va_Nw (.methodLinkNest RX3 11 yX1_init RX3) U := h.1.2.2.2
theorem NX.f95 {U : State} (h : NX U) : va_Nw (.fieldLinkNest RX3 95 RX1 "polling" "Z" RX3) U := h.2.1.1
theorem NX.f92 {U : State} (h : NX U) : va_Nw (.fieldLinkNest RX3 92 RX1 "lostCount" "I" RX3) U := h.2.1.2.1
theorem NX.f71 {U : State} (h : NX U) : va_Nw (.fieldLinkNest RX3 71 RX1 "count" "I" RX3) U := h.2.1.2.2.1
theorem NX.f53 {U : State} (h : NX U) : va_Nw (.fieldLinkNest RX3 53 RX1 "load" "I" RX3) U := h.2.1.2.2.2.1
theorem NX.f50 {U : State} (h : NX U) : va_Nw (.fieldLinkNest RX3 50 RX1 "patience" "I" RX3) U := h.2.1.2.2.2.2.1
theorem NX.f47 {U : State} (h : NX U) : va_Nw (.fieldLinkNest RX3 47 RX1 "join" "I" RX3) U := h.2.1.2.2.2.2.2.1
theorem NX.f43 {U : State} (h : NX U) : va_Nw (.fieldLinkNest RX3 43 RX1 "size" "I" RX3) U := h.2.1.2.2.2.2.2.2
theorem NX.f141 {U : State} (h : NX U) : va_Nw (.fieldLinkNest RX3 141 RX0 "shownCount" "I" RX3) U := h.2.2.1.1
theorem NX.f135 {U : State} (h : NX U) : va_Nw (.fieldLinkNest RX3 135 RX0 "turnTick" "I" RX3) U := h.2.2.1.2.1
theorem NX.f132 {U : State} (h : NX U) : va_Nw (.fieldLinkNest RX3 132 RX0 "nextFrame" "I" RX3) U := h.2.2.1.2.2.1
theorem NX.f129 {U : State} (h : NX U) : va_Nw (.fieldLinkNest RX3 129 RX0 "fates" "[I" RX3) U := h.2.2.1.2.2.2
theorem NX.f107 {U : State} (h : NX U) : va_Nw (.fieldLinkNest RX3 107 RX2 "askedRow" "[I" RX3) U := h.2.2.2.1.1
theorem NX.f102 {U : State} (h : NX U) : va_Nw (.fieldLinkNest RX3 102 RX2 "askedCount" "I" RX3) U := h.2.2.2.1.2
theorem NX.txt {U : State} (h : NX U) : (∃ a, vk_R RX3 38 "an argument is out of range" a U) ∧ (∃ a, vk_R RX3 62 "no such packet" a U) ∧ (∃ a, vk_R RX3 74 "no such packets" a U) ∧ (∃ a, vk_R RX3 76 "many is out of range" a U) ∧ (∃ a, vk_R RX3 78 "ticks is out of range" a U) ∧ (∃ a, vk_R RX3 82 "the tick would be above the last one" a U) ∧ (∃ a, vk_R RX3 105 "not so many were asked for" a U) ∧ (∃ a, vk_R RX3 114 "no such frame" a U) := h.2.2.2.2
end
section
/-! WHAT A STATE IS: numbers 0 size, 1 join, 2 patience, 3 load, 4 how many wait, 5 polled, 6 lost, 7 tick, 8 how many were asked for, 9 begun, 10 its tick, 11 next frame, 12 tick of the next turn, 13 looked up to, 14 highest that is had and 1, 15 shown; rows 0 packets that wait, 1 their ticks, 2 had, 3 was asked for, 4 asked for, 5 fates -/
abbrev AS : Type := (Nat → Nat) × (Nat → Nat → Int32)
def sN (a : AS) (k v : Nat) : AS := (va_up a.1 k v, a.2)
def sA (a : AS) (k : Nat) (f : Nat → Int32) : AS := (a.1, va_up a.2 k f)
abbrev inR (p : Int32) (N : Nat) : Prop := ¬ p < 0 ∧ ¬ nI N ≤ p
theorem inR_nI {p : Int32} {N : Nat} (hN : N < 2 ^ 31) (h : inR p N) : ∃ k : Nat, k < N ∧ p = nI k := by
  rcases pk_ix p hN with q | q | q
  · exact absurd q h.1
  · exact absurd q h.2
  · exact q
theorem nI_inR {k N : Nat} (hN : N < 2 ^ 31) (h : k < N) : inR (nI k) N := ⟨nI_pos (by omega), fun q => by have := (nI_leI hN (by omega)).mp q; omega⟩
theorem nI_inR_iff {k N : Nat} (hN : N < 2 ^ 31) (hk : k < 2 ^ 31) : inR (nI k) N ↔ k < N := ⟨fun h => by
  rcases Nat.lt_or_ge k N with q | q
  · exact q
  · exact absurd (nI_le q hk) h.2, nI_inR hN⟩
def a_come (p : Int32) (a : AS) : AS := if a.1 4 < a.1 0 then sN (sA (sA a 0 (upd (a.2 0) (a.1 4) p)) 1 (upd (a.2 1) (a.1 4) (nI (a.1 7)))) 4 (a.1 4 + 1) else sN a 6 (a.1 6 + 1)
def a_row (f : Nat) : Nat → AS → AS
  | 0, a => a
  | k + 1, a => a_come (nI (f + k)) (a_row f k a)
def a_rowN (f : Nat) : Nat → AS → Nat
  | 0, _ => 0
  | k + 1, a => if (a_row f k a).1 4 < (a_row f k a).1 0 then a_rowN f k a else a_rowN f k a + 1
abbrev a_due (a : AS) : Prop := a.1 1 ≤ a.1 4 ∨ (0 < a.1 4 ∧ nI (a.1 2) ≤ nI (a.1 7) - a.2 1 0)
def a_many (a : AS) : Nat := if a.1 5 = 0 then (if a_due a then a.1 4 else 0) else min (a.1 4) 6
def a_polN (a : AS) : Nat := if a.1 5 = 0 then (if a_due a then (if a.1 3 ≤ a.1 4 then 1 else 0) else 0) else (if 0 < a.1 4 then 1 else 0)
def tkH (Q h : Nat → Int32) : Nat → Nat → Int32
  | 0 => h
  | k + 1 => upd (tkH Q h k) (Q k).toNatClampNeg (nI 1)
def tkP (Q : Nat → Int32) (hp : Nat) : Nat → Nat
  | 0 => hp
  | k + 1 => max (tkP Q hp k) ((Q k).toNatClampNeg + 1)
def shp (f : Nat → Int32) (k i : Nat) : Nat → Int32 := fun j => if j < i then f (j + k) else f j
def shf (f : Nat → Int32) (n k : Nat) : Nat → Int32 := shp f k (n - k)
def a_take (k pol : Nat) (a : AS) : AS := sN (sN (sN (sA (sA (sA a 0 (shf (a.2 0) (a.1 4) k)) 1 (shf (a.2 1) (a.1 4) k)) 2 (tkH (a.2 0) (a.2 2) k)) 4 (a.1 4 - k)) 5 pol) 14 (tkP (a.2 0) (a.1 14) k)
/-- what is left in the ring -/
def a_rest (k : Nat) (a : AS) : AS := sN (sA (sA a 0 (shf (a.2 0) (a.1 4) k)) 1 (shf (a.2 1) (a.1 4) k)) 4 (a.1 4 - k)
def a_drive (a : AS) : AS := a_take (a_many a) (a_polN a) a
def askS (had : Nat → Int32) (nx lu : Nat) : Nat → Nat × (Nat → Int32) × (Nat → Int32) → Nat × (Nat → Int32) × (Nat → Int32)
  | 0, s => s
  | k + 1, s => if had (lu + k) = 0 ∧ nx ≤ (lu + k) / 3 then ((askS had nx lu k s).1 + 1, upd (askS had nx lu k s).2.1 (askS had nx lu k s).1 (nI (lu + k)), upd (askS had nx lu k s).2.2 (lu + k) (nI 1)) else askS had nx lu k s
def a_askS (a : AS) (k : Nat) : Nat × (Nat → Int32) × (Nat → Int32) := askS (a.2 2) (a.1 11) (a.1 13) k (a.1 8, a.2 4, a.2 3)
def a_askK (a : AS) (k : Nat) : AS := sN (sA (sA a 4 (a_askS a k).2.1) 3 (a_askS a k).2.2) 8 (a_askS a k).1
def a_ask (a : AS) : AS := sN (a_askK a (a.1 14 - 1 - a.1 13)) 13 (max (a.1 13) (a.1 14 - 1))
abbrev whl (had : Nat → Int32) (f : Nat) : Prop := had (3 * f) ≠ 0 ∧ had (3 * f + 1) ≠ 0 ∧ had (3 * f + 2) ≠ 0
def fillN (had : Nat → Int32) : Nat → Nat → Nat
  | 0, _ => 0
  | k + 1, f => if whl had f then fillN had k (f + 1) + 1 else 0
def bef (f : Nat) : Nat := if f % 3 = 0 then f - 3 else f - f % 3
def beh (f : Nat) : Nat := f - f % 3 + 3
abbrev sndB (had fate : Nat → Int32) (f : Nat) : Prop := (f % 6 = 0 ∨ fate (bef f) = nI 1) ∧ (f % 3 = 0 ∨ whl had (beh f))
def outc (had fate : Nat → Int32) (f : Nat) : Nat := if whl had f then (if sndB had fate f then 1 else 3) else 2
def pac (k : Nat) : Nat := if 6 ≤ k then 9 else if k ≤ 1 then 11 else 10
def a_out (a : AS) : Nat := outc (a.2 2) (a.2 5) (a.1 11)
def a_fill (a : AS) : Nat := fillN (a.2 2) (100 - a.1 11) (a.1 11)
/-- the frame has its turn, but for the tick of the next -/
def a_turn0 (a : AS) : AS := sN (sN (sA a 5 (upd (a.2 5) (a.1 11) (nI (a_out a)))) 15 (if a_out a = 1 then a.1 15 + 1 else a.1 15)) 11 (a.1 11 + 1)
def a_turn (a : AS) : AS := sN (a_turn0 a) 12 (a.1 7 + pac (a_fill (a_turn0 a)))
def a_begin (a : AS) : AS := sN (sN a 9 1) 10 (a.1 7)
def a_play (a : AS) : AS := if a.1 9 = 0 then (if whl (a.2 2) 0 ∧ whl (a.2 2) 1 ∧ whl (a.2 2) 2 then a_turn (a_begin a) else a) else if a.1 11 < 100 ∧ a.1 12 = a.1 7 then a_turn a else a
def a_pass (a : AS) : AS := sN (a_play (a_ask (a_drive a))) 7 (a.1 7 + 1)
def a_adv : Nat → AS → AS
  | 0, a => a
  | k + 1, a => a_pass (a_adv k a)
def a_set (sz jn pt ld : Nat) (a : AS) : AS := sN (sN (sN (sN a 0 sz) 1 jn) 2 pt) 3 ld
def a_reset (a : AS) : AS := sN (sN (sN a 6 (a.1 6 + a.1 4)) 4 0) 5 0
/-- could be shown by now -/
abbrev cldA (had : Nat → Int32) (g : Nat) : Prop := whl had g ∧ (g % 6 = 0 ∨ whl had (bef g))
abbrev cldB (had : Nat → Int32) (f : Nat) : Prop := whl had f ∧ (f % 6 = 0 ∨ cldA had (bef f)) ∧ (f % 3 = 0 ∨ cldA had (beh f))
def cldN (had : Nat → Int32) : Nat → Nat
  | 0 => 0
  | k + 1 => if cldB had k then cldN had k + 1 else cldN had k
/-- what holds of every state that comes up -/
def AI (a : AS) : Prop := (a.1 0 ≤ 32 ∧ a.1 4 ≤ 32 ∧ a.1 5 ≤ 1 ∧ a.1 7 ≤ 20000 ∧ a.1 9 ≤ 1 ∧ a.1 10 ≤ 20000 ∧ a.1 11 ≤ 100 ∧ a.1 12 ≤ 30000) ∧ (a.1 1 ≤ 32 ∧ a.1 2 ≤ 50 ∧ a.1 3 ≤ 32) ∧ (a.1 8 ≤ a.1 13 ∧ a.1 13 ≤ 299 ∧ a.1 14 ≤ 300) ∧ (∀ k, k < a.1 4 → vp_in (a.2 0 k) 300) ∧ (∀ p, p < 300 → a.1 14 ≤ p → a.2 2 p = 0) ∧ (0 < a.1 14 → a.2 2 (a.1 14 - 1) ≠ 0) ∧ (∀ p, a.1 13 ≤ p → a.2 3 p = 0) ∧ (∀ p, p < a.1 13 → a.2 2 p ≠ 0 ∨ a.2 3 p ≠ 0 ∨ p / 3 < a.1 11) ∧ (a.1 9 = 0 → a.1 11 = 0)
/-! the worlds -/
abbrev RWa (cI : ClassId) (q : Nat → Nat) (a : AS) : va_W := [(q 1, .inr (1, [.ref (q 10), .ref (q 11), .int (nI (a.1 4)), .int (nI (a.1 0)), .int (nI (a.1 1)), .int (nI (a.1 2)), .int (nI (a.1 3)), .int (nI (a.1 5)), .int (nI (a.1 6))])), (q 10, .inl (cI, 32, .inl (a.2 0))), (q 11, .inl (cI, 32, .inl (a.2 1)))]
abbrev SWa (cI cZ : ClassId) (q : Nat → Nat) (a : AS) : va_W := [(q 2, .inr (2, [.ref (q 20), .ref (q 21), .int (nI (a.1 8)), .int (nI (a.1 14) - 1), .int (nI (a.1 13))])), (q 20, .inl (cZ, 300, .inl (a.2 2))), (q 21, .inl (cI, 300, .inl (a.2 4)))]
def bT (a : AS) : Int32 := if a.1 9 = 0 then -1 else nI (a.1 10)
def tT (a : AS) : Int32 := if a.1 9 = 0 ∨ 100 ≤ a.1 11 then -1 else nI (a.1 12)
/-- the film, its two ticks apart -/
abbrev FWb (cI : ClassId) (q : Nat → Nat) (a : AS) (b t : Int32) : va_W := [(q 3, .inr (0, [.ref (q 2), .ref (q 31), .int (nI (a.1 11)), .int b, .int t, .int (nI (a.1 15))])), (q 31, .inl (cI, 100, .inl (a.2 5)))]
abbrev FWa (cI : ClassId) (q : Nat → Nat) (a : AS) : va_W := FWb cI q a (bT a) (tT a)
abbrev PWa (q : Nat → Nat) (a : AS) : va_W := [(q 0, .inr (3, [.ref (q 1), .ref (q 2), .ref (q 3), .int (nI (a.1 7))]))]
abbrev XWa (cI cZ : ClassId) (q : Nat → Nat) (a : AS) : va_W := PWa q a ++ (RWa cI q a ++ (SWa cI cZ q a ++ FWa cI q a))
/-- the check's object: its ring turns (hd, rg, cm), its last exception th, its scratch row co -/
abbrev MW (cI cZ : ClassId) (q : Nat → Nat) (a : AS) (hd : Nat) (rg cm : Nat → Int32) (th : Nat) (co : Nat → Int32) : va_W := [(q 50, .inr (4, [.int (nI (a.1 0)), .int (nI (a.1 1)), .int (nI (a.1 2)), .int (nI (a.1 3)), .ref (q 54), .ref (q 55), .int (nI hd), .int (nI (a.1 4)), .int (nI (a.1 5)), .int (nI (a.1 6)), .int (nI (a.1 7)), .ref (q 61), .ref (q 62), .ref (q 63), .int (nI (a.1 8)), .ref (q 65), .ref (q 66), .int (nI (a.1 9)), .int (nI (a.1 10)), .int (nI (a.1 11)), .int (nI (a.1 12)), .int (nI th)])), (q 54, .inl (cI, 32, .inl rg)), (q 55, .inl (cI, 32, .inl cm)), (q 61, .inl (cZ, 300, .inl (a.2 2))), (q 62, .inl (cZ, 300, .inl (a.2 3))), (q 63, .inl (cI, 300, .inl (a.2 4))), (q 65, .inl (cI, 100, .inl (a.2 5))), (q 66, .inl (cZ, 100, .inl co))]
end
section
/-! rows on the state's functions -/
theorem a_come_t {x : Int32} {a : AS} (h : a.1 4 < a.1 0) : a_come x a = sN (sA (sA a 0 (upd (a.2 0) (a.1 4) x)) 1 (upd (a.2 1) (a.1 4) (nI (a.1 7)))) 4 (a.1 4 + 1) := if_pos h
theorem a_come_f {x : Int32} {a : AS} (h : ¬ a.1 4 < a.1 0) : a_come x a = sN a 6 (a.1 6 + 1) := if_neg h
theorem k_min {a b : Nat} (ha : a < 2 ^ 31) (hb : b < 2 ^ 31) : (if nI b < nI a then nI b else nI a) = nI (min a b) := by
  rcases Nat.lt_or_ge b a with q | q
  · rw [if_pos (nI_lt q ha), Nat.min_eq_right (Nat.le_of_lt q)]
  · rw [if_neg (nI_nlt q hb), Nat.min_eq_left q]
theorem k_max {a b : Nat} (ha : a < 2 ^ 31) (hb : b < 2 ^ 31) : (if nI a < nI b then nI b else nI a) = nI (max a b) := by
  rcases Nat.lt_or_ge a b with q | q
  · rw [if_pos (nI_lt q hb), Nat.max_eq_right (Nat.le_of_lt q)]
  · rw [if_neg (nI_nlt q ha), Nat.max_eq_left q]
theorem shp_0 {f : Nat → Int32} {k : Nat} : shp f k 0 = f := by
  funext j
  exact if_neg (Nat.not_lt_zero j)
theorem shp_step {f : Nat → Int32} {k i : Nat} : upd (shp f k i) i (shp f k i (k + i)) = shp f k (i + 1) := by
  funext j
  unfold upd shp
  by_cases h : j = i
  · subst h
    rw [if_pos rfl, if_neg (by omega), if_pos (by omega), Nat.add_comm]
  · rw [if_neg h]
    by_cases h2 : j < i
    · rw [if_pos h2, if_pos (by omega)]
    · rw [if_neg h2, if_neg (by omega)]
/-- the highest that is had, with what comes -/
theorem k_maxh {h p : Nat} (hh : h ≤ 300) (hp : p < 300) : (if nI h - 1 < nI p then nI p else nI h - 1) = nI (max h (p + 1)) - 1 := by
  have e1 : (nI h - 1).toInt = (h : Int) - 1 := pk_sub_toInt (b := 1) (by omega) (by omega)
  have e2 : (nI p).toInt = (p : Int) := nI_toInt (by omega)
  by_cases q : h < p + 1
  · rw [if_pos (Int32.lt_iff_toInt_lt.mpr (by omega)), Nat.max_eq_right (by omega)]
    exact (nI_pred p).symm
  · rw [Nat.max_eq_left (by omega)]
    by_cases q2 : nI h - 1 < nI p
    · exact absurd (Int32.lt_iff_toInt_lt.mp q2) (by omega)
    · exact if_neg q2
theorem k_hlt {h p : Nat} (hh : h ≤ 300) (hp : p < 1000) : nI p < nI h - 1 ↔ p < h - 1 := by
  have e1 : (nI h - 1).toInt = (h : Int) - 1 := pk_sub_toInt (b := 1) (by omega) (by omega)
  have e2 : (nI p).toInt = (p : Int) := nI_toInt (by omega)
  rw [Int32.lt_iff_toInt_lt]
  omega
theorem k_hle {h p : Nat} (hh : h ≤ 300) (hp : p < 1000) : nI h - 1 ≤ nI p ↔ h - 1 ≤ p := by
  have e1 : (nI h - 1).toInt = (h : Int) - 1 := pk_sub_toInt (b := 1) (by omega) (by omega)
  have e2 : (nI p).toInt = (p : Int) := nI_toInt (by omega)
  rw [Int32.le_iff_toInt_le]
  omega
theorem k_maxl {u h : Nat} (hh : h ≤ 300) (hu : u < 300) : (if nI u < nI h - 1 then nI h - 1 else nI u) = nI (max u (h - 1)) := by
  by_cases q : u < h - 1
  · rw [if_pos ((k_hlt hh (by omega)).mpr q), Nat.max_eq_right (by omega)]
    exact pk_sub (b := 1) (by omega)
  · rw [if_neg (fun z => q ((k_hlt hh (by omega)).mp z)), Nat.max_eq_left (by omega)]
theorem vp_nI {x : Int32} {n : Nat} (h : vp_in x n) (hn : n < 2 ^ 31) : x = nI x.toNatClampNeg := by
  obtain ⟨j, hj, rfl⟩ := vp_in_of h hn
  rw [nI_clamp (by omega)]
theorem vp_lt {x : Int32} {n : Nat} (h : vp_in x n) (hn : n < 2 ^ 31) : x.toNatClampNeg < n := by
  obtain ⟨j, hj, rfl⟩ := vp_in_of h hn
  rw [nI_clamp (by omega)]
  exact hj
theorem nI_m1 {k : Nat} (h : k < 2 ^ 31) : ¬ nI k = -1 := fun q => by
  have h1 := nI_toInt h
  rw [q] at h1
  have h2 : (-1 : Int32).toInt = -1 := by decide
  omega
theorem askS_le {had : Nat → Int32} {nx lu : Nat} (s : Nat × (Nat → Int32) × (Nat → Int32)) : ∀ k : Nat, (askS had nx lu k s).1 ≤ s.1 + k
  | 0 => Nat.le_refl _
  | k + 1 => by
    have := askS_le (had := had) (nx := nx) (lu := lu) s k
    unfold askS
    split
    · show (askS had nx lu k s).1 + 1 ≤ s.1 + (k + 1)
      omega
    · omega
theorem a_askS_t {a : AS} {k : Nat} (h : a.2 2 (a.1 13 + k) = 0 ∧ a.1 11 ≤ (a.1 13 + k) / 3) : a_askS a (k + 1) = ((a_askS a k).1 + 1, upd (a_askS a k).2.1 (a_askS a k).1 (nI (a.1 13 + k)), upd (a_askS a k).2.2 (a.1 13 + k) (nI 1)) := if_pos h
theorem a_askS_f {a : AS} {k : Nat} (h : ¬ (a.2 2 (a.1 13 + k) = 0 ∧ a.1 11 ≤ (a.1 13 + k) / 3)) : a_askS a (k + 1) = a_askS a k := if_neg h
theorem fillN_f {had : Nat → Int32} {f : Nat} (h : ¬ whl had f) : ∀ n : Nat, fillN had n f = 0
  | 0 => rfl
  | n + 1 => if_neg h
theorem fillN_t {had : Nat → Int32} {f n : Nat} (h : whl had f) (hn : 0 < n) : fillN had n f = fillN had (n - 1) (f + 1) + 1 := by
  obtain ⟨k, rfl⟩ : ∃ k, n = k + 1 := ⟨n - 1, by omega⟩
  exact if_pos h
theorem a_out_le (a : AS) : a_out a ≤ 3 := by
  unfold a_out outc
  split
  · split <;> decide
  · decide
theorem bT_m1 {a : AS} (h : a.1 10 < 2 ^ 31) : bT a = -1 ↔ a.1 9 = 0 := by
  unfold bT
  by_cases q : a.1 9 = 0
  · rw [if_pos q]; exact ⟨fun _ => q, fun _ => rfl⟩
  · rw [if_neg q]; exact ⟨fun z => absurd z (nI_m1 h), fun z => absurd z q⟩
theorem bT_n {a : AS} (h : ¬ a.1 9 = 0) : bT a = nI (a.1 10) := if_neg h
theorem tT_m1 {a : AS} (h : a.1 12 < 2 ^ 31) : tT a = -1 ↔ (a.1 9 = 0 ∨ 100 ≤ a.1 11) := by
  unfold tT
  by_cases q : a.1 9 = 0 ∨ 100 ≤ a.1 11
  · rw [if_pos q]; exact ⟨fun _ => q, fun _ => rfl⟩
  · rw [if_neg q]; exact ⟨fun z => absurd z (nI_m1 h), fun z => absurd z q⟩
theorem tT_n {a : AS} (h : ¬ (a.1 9 = 0 ∨ 100 ≤ a.1 11)) : tT a = nI (a.1 12) := if_neg h
theorem tT_t {a : AS} {t : Nat} (h : a.1 12 < 2 ^ 31) (ht : t < 2 ^ 31) : tT a = nI t ↔ (¬ a.1 9 = 0 ∧ a.1 11 < 100 ∧ a.1 12 = t) := by
  unfold tT
  by_cases q : a.1 9 = 0 ∨ 100 ≤ a.1 11
  · rw [if_pos q]
    exact ⟨fun z => absurd z.symm (nI_m1 ht), fun z => absurd q (fun w => w.elim z.1 (fun w => by omega))⟩
  · rw [if_neg q]
    exact ⟨fun z => ⟨fun w => q (Or.inl w), by omega, (nI_eq h ht).mp z⟩, fun z => by rw [z.2.2]⟩
theorem bef_lt {f : Nat} (h : f < 100) : bef f < 100 := by
  unfold bef
  split <;> omega
theorem beh_lt {f : Nat} (h : f < 100) (h3 : ¬ f % 3 = 0) : beh f < 100 := by
  unfold beh
  omega
theorem fillN_le {had : Nat → Int32} : ∀ n f : Nat, fillN had n f ≤ n
  | 0, _ => Nat.le_refl _
  | n + 1, f => by
    have := fillN_le (had := had) n (f + 1)
    unfold fillN
    split <;> omega
theorem a_fill_le (a : AS) : a_fill a ≤ 100 := Nat.le_trans (fillN_le _ _) (by omega)
end
section
/-! what holds goes on holding -/
theorem nI1_ne : ¬ nI 1 = 0 := by decide
theorem upd_s {f : Nat → Int32} {k : Nat} {x : Int32} : upd f k x k = x := if_pos rfl
theorem upd_n {f : Nat → Int32} {k j : Nat} {x : Int32} (h : ¬ j = k) : upd f k x j = f j := if_neg h
theorem AI_come {a : AS} (x : Int32) (hx : vp_in x 300) (hI : AI a) : AI (a_come x a) := by
  obtain ⟨⟨i0, i4, i5, i7, i9, i10, i11, i12⟩, ⟨i1, i2, i3⟩, ⟨i8, i13, i14⟩, iQ, iH0, iH1, iW0, iW1, iN⟩ := hI
  by_cases h : a.1 4 < a.1 0
  · rw [a_come_t h]
    refine ⟨⟨i0, ?_, i5, i7, i9, i10, i11, i12⟩, ⟨i1, i2, i3⟩, ⟨i8, i13, i14⟩, ?_, iH0, iH1, iW0, iW1, iN⟩
    · show a.1 4 + 1 ≤ 32
      omega
    · intro k hk
      have hk : k < a.1 4 + 1 := hk
      show vp_in (upd (a.2 0) (a.1 4) x k) 300
      by_cases e : k = a.1 4
      · rw [e, upd_s]; exact hx
      · rw [upd_n e]; exact iQ k (by omega)
  · rw [a_come_f h]
    exact ⟨⟨i0, i4, i5, i7, i9, i10, i11, i12⟩, ⟨i1, i2, i3⟩, ⟨i8, i13, i14⟩, iQ, iH0, iH1, iW0, iW1, iN⟩
theorem AI_row {a : AS} {f : Nat} (hI : AI a) : ∀ k : Nat, f + k ≤ 300 → AI (a_row f k a)
  | 0, _ => hI
  | k + 1, h => AI_come _ (vp_in_nI (by omega) (by decide)) (AI_row hI k (by omega))
theorem a_many_le (a : AS) : a_many a ≤ a.1 4 := by
  unfold a_many
  split
  · split <;> omega
  · exact Nat.min_le_left _ _
theorem a_polN_le (a : AS) : a_polN a ≤ 1 := by
  unfold a_polN
  split
  · split
    · split <;> omega
    · omega
  · split <;> omega
theorem tkP_le {Q : Nat → Int32} {hp : Nat} (h : hp ≤ 300) : ∀ k : Nat, (∀ j, j < k → vp_in (Q j) 300) → tkP Q hp k ≤ 300
  | 0, _ => h
  | k + 1, hq => by
    have h1 := tkP_le (Q := Q) h k (fun j hj => hq j (by omega))
    have h2 := vp_lt (hq k (by omega)) (by decide)
    show max (tkP Q hp k) ((Q k).toNatClampNeg + 1) ≤ 300
    omega
theorem tkH_0 {Q h : Nat → Int32} {hp : Nat} (h0 : ∀ p, p < 300 → hp ≤ p → h p = 0) : ∀ k p : Nat, p < 300 → tkP Q hp k ≤ p → tkH Q h k p = 0
  | 0, p, h1, h2 => h0 p h1 h2
  | k + 1, p, h1, h2 => by
    have h2 : max (tkP Q hp k) ((Q k).toNatClampNeg + 1) ≤ p := h2
    show upd (tkH Q h k) (Q k).toNatClampNeg (nI 1) p = 0
    rw [upd_n (by omega)]
    exact tkH_0 h0 k p h1 (by omega)
theorem tkH_1 {Q h : Nat → Int32} {hp : Nat} (h1 : 0 < hp → h (hp - 1) ≠ 0) : ∀ k : Nat, 0 < tkP Q hp k → tkH Q h k (tkP Q hp k - 1) ≠ 0
  | 0, h2 => h1 h2
  | k + 1, h2 => by
    show upd (tkH Q h k) (Q k).toNatClampNeg (nI 1) (max (tkP Q hp k) ((Q k).toNatClampNeg + 1) - 1) ≠ 0
    by_cases e : max (tkP Q hp k) ((Q k).toNatClampNeg + 1) - 1 = (Q k).toNatClampNeg
    · rw [e, upd_s]; exact nI1_ne
    · rw [upd_n e, show max (tkP Q hp k) ((Q k).toNatClampNeg + 1) - 1 = tkP Q hp k - 1 by omega]
      exact tkH_1 h1 k (by omega)
theorem tkH_m {Q h : Nat → Int32} {p : Nat} (h1 : h p ≠ 0) : ∀ k : Nat, tkH Q h k p ≠ 0
  | 0 => h1
  | k + 1 => by
    show upd (tkH Q h k) (Q k).toNatClampNeg (nI 1) p ≠ 0
    by_cases e : p = (Q k).toNatClampNeg
    · rw [e, upd_s]; exact nI1_ne
    · rw [upd_n e]; exact tkH_m h1 k
theorem AI_drive {a : AS} (hI : AI a) : AI (a_drive a) := by
  obtain ⟨⟨i0, i4, i5, i7, i9, i10, i11, i12⟩, ⟨i1, i2, i3⟩, ⟨i8, i13, i14⟩, iQ, iH0, iH1, iW0, iW1, iN⟩ := hI
  have hm := a_many_le a
  refine ⟨⟨i0, ?_, a_polN_le a, i7, i9, i10, i11, i12⟩, ⟨i1, i2, i3⟩, ⟨i8, i13, tkP_le i14 _ (fun j hj => iQ j (by omega))⟩, ?_, fun p hp h => tkH_0 iH0 _ p hp h, fun h => tkH_1 iH1 _ h, iW0, ?_, iN⟩
  · show a.1 4 - a_many a ≤ 32
    omega
  · intro k hk
    have hk : k < a.1 4 - a_many a := hk
    show vp_in (if k < a.1 4 - a_many a then a.2 0 (k + a_many a) else a.2 0 k) 300
    rw [if_pos hk]
    exact iQ _ (by omega)
  · intro p hp
    exact (iW1 p hp).elim (fun h => Or.inl (tkH_m h _)) Or.inr
theorem askW {had : Nat → Int32} {nx lu : Nat} {s : Nat × (Nat → Int32) × (Nat → Int32)} {p : Nat} : ∀ k : Nat, (lu + k ≤ p ∨ p < lu) → (askS had nx lu k s).2.2 p = s.2.2 p
  | 0, _ => rfl
  | k + 1, h => by
    have ih := askW (had := had) (nx := nx) (s := s) (p := p) (lu := lu) k (by omega)
    unfold askS
    split
    · show upd (askS had nx lu k s).2.2 (lu + k) (nI 1) p = s.2.2 p
      rw [upd_n (by omega)]; exact ih
    · exact ih
theorem askW1 {had : Nat → Int32} {nx lu : Nat} {s : Nat × (Nat → Int32) × (Nat → Int32)} {p : Nat} (h0 : lu ≤ p) (h1 : had p = 0) (h2 : nx ≤ p / 3) : ∀ k : Nat, p < lu + k → (askS had nx lu k s).2.2 p = nI 1
  | 0, h => by omega
  | k + 1, h => by
    unfold askS
    by_cases e : p = lu + k
    · subst e
      rw [if_pos ⟨h1, h2⟩]
      exact upd_s
    · have ih := askW1 (had := had) (nx := nx) (s := s) (p := p) (lu := lu) h0 h1 h2 k (by omega)
      split
      · show upd (askS had nx lu k s).2.2 (lu + k) (nI 1) p = nI 1
        rw [upd_n (by omega)]; exact ih
      · exact ih
theorem AI_ask {a : AS} (hI : AI a) : AI (a_ask a) := by
  obtain ⟨⟨i0, i4, i5, i7, i9, i10, i11, i12⟩, ⟨i1, i2, i3⟩, ⟨i8, i13, i14⟩, iQ, iH0, iH1, iW0, iW1, iN⟩ := hI
  have hs := askS_le (had := a.2 2) (nx := a.1 11) (lu := a.1 13) (a.1 8, a.2 4, a.2 3) (a.1 14 - 1 - a.1 13)
  have hs : (askS (a.2 2) (a.1 11) (a.1 13) (a.1 14 - 1 - a.1 13) (a.1 8, a.2 4, a.2 3)).1 ≤ a.1 8 + (a.1 14 - 1 - a.1 13) := hs
  refine ⟨⟨i0, i4, i5, i7, i9, i10, i11, i12⟩, ⟨i1, i2, i3⟩, ⟨?_, ?_, i14⟩, iQ, iH0, iH1, ?_, ?_, iN⟩
  · show (askS (a.2 2) (a.1 11) (a.1 13) (a.1 14 - 1 - a.1 13) (a.1 8, a.2 4, a.2 3)).1 ≤ max (a.1 13) (a.1 14 - 1)
    omega
  · show max (a.1 13) (a.1 14 - 1) ≤ 299
    omega
  · intro p hp
    have hp : max (a.1 13) (a.1 14 - 1) ≤ p := hp
    show (askS (a.2 2) (a.1 11) (a.1 13) (a.1 14 - 1 - a.1 13) (a.1 8, a.2 4, a.2 3)).2.2 p = 0
    rw [askW _ (Or.inl (by omega))]
    exact iW0 p (by omega)
  · intro p hp
    have hp : p < max (a.1 13) (a.1 14 - 1) := hp
    show a.2 2 p ≠ 0 ∨ (askS (a.2 2) (a.1 11) (a.1 13) (a.1 14 - 1 - a.1 13) (a.1 8, a.2 4, a.2 3)).2.2 p ≠ 0 ∨ p / 3 < a.1 11
    by_cases e : p < a.1 13
    · rw [askW _ (Or.inr e)]
      exact iW1 p e
    · by_cases h1 : a.2 2 p = 0
      · by_cases h2 : a.1 11 ≤ p / 3
        · rw [askW1 (by omega) h1 h2 _ (by omega)]
          exact Or.inr (Or.inl nI1_ne)
        · exact Or.inr (Or.inr (by omega))
      · exact Or.inl h1
theorem pac_le (k : Nat) : pac k ≤ 11 := by
  unfold pac
  split
  · decide
  · split <;> decide
theorem AI_turn {a : AS} (hI : AI a) (h9 : ¬ a.1 9 = 0) (h11 : a.1 11 < 100) : AI (a_turn a) := by
  obtain ⟨⟨i0, i4, i5, i7, i9, i10, i11, i12⟩, ⟨i1, i2, i3⟩, ⟨i8, i13, i14⟩, iQ, iH0, iH1, iW0, iW1, iN⟩ := hI
  refine ⟨⟨i0, i4, i5, i7, i9, i10, h11, ?_⟩, ⟨i1, i2, i3⟩, ⟨i8, i13, i14⟩, iQ, iH0, iH1, iW0, ?_, fun h => absurd h h9⟩
  · show a.1 7 + pac (a_fill (a_turn0 a)) ≤ 30000
    have := pac_le (a_fill (a_turn0 a))
    omega
  · intro p hp
    exact (iW1 p hp).imp_right (fun h => h.imp_right (fun h => Nat.lt_succ_of_lt h))
theorem AI_begin {a : AS} (hI : AI a) : AI (a_begin a) := by
  obtain ⟨⟨i0, i4, i5, i7, i9, i10, i11, i12⟩, ⟨i1, i2, i3⟩, ⟨i8, i13, i14⟩, iQ, iH0, iH1, iW0, iW1, iN⟩ := hI
  exact ⟨⟨i0, i4, i5, i7, Nat.le_refl 1, i7, i11, i12⟩, ⟨i1, i2, i3⟩, ⟨i8, i13, i14⟩, iQ, iH0, iH1, iW0, iW1, fun h => absurd h (show ¬ 1 = 0 by decide)⟩
theorem AI_play {a : AS} (hI : AI a) : AI (a_play a) := by
  unfold a_play
  by_cases h9 : a.1 9 = 0
  · rw [if_pos h9]
    split
    · exact AI_turn (AI_begin hI) (show ¬ 1 = 0 by decide) (show a.1 11 < 100 by have := hI.2.2.2.2.2.2.2.2 h9; omega)
    · exact hI
  · rw [if_neg h9]
    split
    · next h => exact AI_turn hI h9 h.1
    · exact hI
theorem a_play_7 (a : AS) : (a_play a).1 7 = a.1 7 := by
  unfold a_play
  split <;> split <;> rfl
theorem AI_tick {a : AS} (hI : AI a) (t : Nat) (h : t ≤ 20000) : AI (sN a 7 t) := by
  obtain ⟨⟨i0, i4, i5, i7, i9, i10, i11, i12⟩, ⟨i1, i2, i3⟩, ⟨i8, i13, i14⟩, iQ, iH0, iH1, iW0, iW1, iN⟩ := hI
  exact ⟨⟨i0, i4, i5, h, i9, i10, i11, i12⟩, ⟨i1, i2, i3⟩, ⟨i8, i13, i14⟩, iQ, iH0, iH1, iW0, iW1, iN⟩
theorem AI_pass {a : AS} (hI : AI a) (h : a.1 7 < 20000) : AI (a_pass a) := AI_tick (AI_play (AI_ask (AI_drive hI))) _ h
theorem a_adv_7 (a : AS) : ∀ k : Nat, (a_adv k a).1 7 = a.1 7 + k
  | 0 => rfl
  | k + 1 => by
    show (a_adv k a).1 7 + 1 = a.1 7 + (k + 1)
    rw [a_adv_7 a k]; rfl
theorem AI_adv {a : AS} (hI : AI a) : ∀ k : Nat, a.1 7 + k ≤ 20000 → AI (a_adv k a)
  | 0, _ => hI
  | k + 1, h => AI_pass (AI_adv hI k (by omega)) (by rw [a_adv_7]; omega)
theorem AI_set {a : AS} (hI : AI a) {sz jn pt ld : Nat} (h0 : sz ≤ 32) (h1 : jn ≤ 32) (h2 : pt ≤ 50) (h3 : ld ≤ 32) : AI (a_set sz jn pt ld a) := by
  obtain ⟨⟨i0, i4, i5, i7, i9, i10, i11, i12⟩, ⟨i1, i2, i3⟩, ⟨i8, i13, i14⟩, iQ, iH0, iH1, iW0, iW1, iN⟩ := hI
  exact ⟨⟨h0, i4, i5, i7, i9, i10, i11, i12⟩, ⟨h1, h2, h3⟩, ⟨i8, i13, i14⟩, iQ, iH0, iH1, iW0, iW1, iN⟩
theorem AI_reset {a : AS} (hI : AI a) : AI (a_reset a) := by
  obtain ⟨⟨i0, i4, i5, i7, i9, i10, i11, i12⟩, ⟨i1, i2, i3⟩, ⟨i8, i13, i14⟩, iQ, iH0, iH1, iW0, iW1, iN⟩ := hI
  exact ⟨⟨i0, Nat.zero_le _, Nat.zero_le _, i7, i9, i10, i11, i12⟩, ⟨i1, i2, i3⟩, ⟨i8, i13, i14⟩, fun k hk => absurd hk (Nat.not_lt_zero k), iH0, iH1, iW0, iW1, iN⟩
/-! what stays where it is -/
theorem XW_come {cI cZ : ClassId} {q : Nat → Nat} {a : AS} {x : Int32} : XWa cI cZ q (a_come x a) = PWa q a ++ (RWa cI q (a_come x a) ++ (SWa cI cZ q a ++ FWa cI q a)) := by
  by_cases h : a.1 4 < a.1 0
  · rw [a_come_t h]; rfl
  · rw [a_come_f h]; rfl
theorem RW_play {cI : ClassId} {q : Nat → Nat} {a : AS} : RWa cI q (a_play a) = RWa cI q a := by
  unfold a_play
  split <;> split <;> rfl
end
section
/-! static methods -/
set_option maxHeartbeats 4000000 in
set_option maxRecDepth 100000 in
theorem c_X3_isPacket (l : Launch) (D : va_G) (cI cZ : ClassId) (x : Int32) : kMi l yX3_isPacket wsX3_isPacket 0 0 D (TY cI cZ) [.int x] [] (fun (r : Int32) (_ : Unit) => r = (if inR x 300 then nI 1 else nI 0)) (fun (_ : Unit) => ([] : va_W)) := by
  intro sz
  refine k_in (Qc := fun A => va_Qi (fun (r : Int32) (_ : Unit) => r = (if inR x 300 then nI 1 else nI 0)) (kB D A (fun (_ : Unit) => ([] : va_W))) A) (cc := cX3_isPacket) (maxL := 1) (ret := (some .boolean)) (by decide) rfl (Nat.le_of_ble_eq_true rfl) ?_
  intro p e s m below meth c A ls hfix hr hlk hN hP hK hD hA hS hl
  have hfix : CallFix p m c cX3_isPacket 1 s [.int x].toArray wsX3_isPacket RX3 := hfix
  have hl : lv_has ls 1 [(0, .int x)] := hl
  obtain ⟨hx, hb, hml, hown, hts⟩ := id hfix
  have hP : va_P D vwCl [] s.heap := hP
  have hD : va_D A [] := hD
  have hS : ∃ (H : Heap) (locs : List Loc), H = s.heap ∧ locs = [] ∧ va_S A s.heap H locs := ⟨_, _, rfl, rfl, hS⟩
  obtain ⟨H, locs, hH, hlocs, hS⟩ := hS
  rw [← hH] at hP
  suffices hW9 : W p l e ({ frames := 0, cells := 0, slots := 0, locals := 0 } : Room) s m [.int x].toArray below meth c H locs 0 0 (MQ below (va_Qi (fun (r : Int32) (_ : Unit) => r = (if inR x 300 then nI 1 else nI 0)) (kB D A (fun (_ : Unit) => ([] : va_W))) A) [.int x].toArray s 0 0 A) (F0 m 0 ls []) by rw [hH, hlocs] at hW9; exact hW9
  clear hH hlocs
  refine lv_iload_n hx hb dX3_isPacket_0 rfl (lv_at hl 0 rfl) ?_
  refine lv_if_lt (tgt := 15) hx hb dX3_isPacket_1 (by decide) (fun c_1 => ?_) (fun c_1 => ?_)
  · -- c_1 taken
    refine lv_iconst (v := nI 0) hx hb dX3_isPacket_15 (by decide) ?_
    exact k_iret (v := nI 0) hx hb hr hlk (by decide) () ((if_neg (fun h => h.1 c_1)).symm) hP hD hS dX3_isPacket_16
  · -- c_1 not taken
    refine lv_iload_n hx hb dX3_isPacket_4 rfl (lv_at hl 0 rfl) ?_
    refine lv_sipush (v := nI 300) hx hb dX3_isPacket_5 (by decide) ?_
    refine lv_icmp_ge (tgt := 15) hx hb dX3_isPacket_8 (by decide) (fun c_8 => ?_) (fun c_8 => ?_)
    · -- c_8 taken
      refine lv_iconst (v := nI 0) hx hb dX3_isPacket_15 (by decide) ?_
      exact k_iret (v := nI 0) hx hb hr hlk (by decide) () ((if_neg (fun h => h.2 c_8)).symm) hP hD hS dX3_isPacket_16
    · -- c_8 not taken
      refine lv_iconst (v := nI 1) hx hb dX3_isPacket_11 (by decide) ?_
      refine lv_goto (tgt := 16) hx hb dX3_isPacket_12 (by decide) ?_
      exact k_iret (v := nI 1) hx hb hr hlk (by decide) () ((if_pos ⟨c_1, c_8⟩).symm) hP hD hS dX3_isPacket_16
set_option maxHeartbeats 4000000 in
set_option maxRecDepth 100000 in
theorem c_X3_isFrame (l : Launch) (D : va_G) (cI cZ : ClassId) (x : Int32) : kMi l yX3_isFrame wsX3_isFrame 0 0 D (TY cI cZ) [.int x] [] (fun (r : Int32) (_ : Unit) => r = (if inR x 100 then nI 1 else nI 0)) (fun (_ : Unit) => ([] : va_W)) := by
  intro sz
  refine k_in (Qc := fun A => va_Qi (fun (r : Int32) (_ : Unit) => r = (if inR x 100 then nI 1 else nI 0)) (kB D A (fun (_ : Unit) => ([] : va_W))) A) (cc := cX3_isFrame) (maxL := 1) (ret := (some .boolean)) (by decide) rfl (Nat.le_of_ble_eq_true rfl) ?_
  intro p e s m below meth c A ls hfix hr hlk hN hP hK hD hA hS hl
  have hfix : CallFix p m c cX3_isFrame 1 s [.int x].toArray wsX3_isFrame RX3 := hfix
  have hl : lv_has ls 1 [(0, .int x)] := hl
  obtain ⟨hx, hb, hml, hown, hts⟩ := id hfix
  have hP : va_P D vwCl [] s.heap := hP
  have hD : va_D A [] := hD
  have hS : ∃ (H : Heap) (locs : List Loc), H = s.heap ∧ locs = [] ∧ va_S A s.heap H locs := ⟨_, _, rfl, rfl, hS⟩
  obtain ⟨H, locs, hH, hlocs, hS⟩ := hS
  rw [← hH] at hP
  suffices hW9 : W p l e ({ frames := 0, cells := 0, slots := 0, locals := 0 } : Room) s m [.int x].toArray below meth c H locs 0 0 (MQ below (va_Qi (fun (r : Int32) (_ : Unit) => r = (if inR x 100 then nI 1 else nI 0)) (kB D A (fun (_ : Unit) => ([] : va_W))) A) [.int x].toArray s 0 0 A) (F0 m 0 ls []) by rw [hH, hlocs] at hW9; exact hW9
  clear hH hlocs
  refine lv_iload_n hx hb dX3_isFrame_0 rfl (lv_at hl 0 rfl) ?_
  refine lv_if_lt (tgt := 14) hx hb dX3_isFrame_1 (by decide) (fun c_1 => ?_) (fun c_1 => ?_)
  · -- c_1 taken
    refine lv_iconst (v := nI 0) hx hb dX3_isFrame_14 (by decide) ?_
    exact k_iret (v := nI 0) hx hb hr hlk (by decide) () ((if_neg (fun h => h.1 c_1)).symm) hP hD hS dX3_isFrame_15
  · -- c_1 not taken
    refine lv_iload_n hx hb dX3_isFrame_4 rfl (lv_at hl 0 rfl) ?_
    refine lv_bipush (v := nI 100) hx hb dX3_isFrame_5 (by decide) ?_
    refine lv_icmp_ge (tgt := 14) hx hb dX3_isFrame_7 (by decide) (fun c_7 => ?_) (fun c_7 => ?_)
    · -- c_7 taken
      refine lv_iconst (v := nI 0) hx hb dX3_isFrame_14 (by decide) ?_
      exact k_iret (v := nI 0) hx hb hr hlk (by decide) () ((if_neg (fun h => h.2 c_7)).symm) hP hD hS dX3_isFrame_15
    · -- c_7 not taken
      refine lv_iconst (v := nI 1) hx hb dX3_isFrame_10 (by decide) ?_
      refine lv_goto (tgt := 15) hx hb dX3_isFrame_11 (by decide) ?_
      exact k_iret (v := nI 1) hx hb hr hlk (by decide) () ((if_pos ⟨c_1, c_7⟩).symm) hP hD hS dX3_isFrame_15
set_option maxHeartbeats 4000000 in
set_option maxRecDepth 100000 in
theorem c_X4_isFrame (l : Launch) (D : va_G) (cI cZ : ClassId) (x : Int32) : kMi l yX4_isFrame wsX4_isFrame 0 0 D (TY cI cZ) [.int x] [] (fun (r : Int32) (_ : Unit) => r = (if inR x 100 then nI 1 else nI 0)) (fun (_ : Unit) => ([] : va_W)) := by
  intro sz
  refine k_in (Qc := fun A => va_Qi (fun (r : Int32) (_ : Unit) => r = (if inR x 100 then nI 1 else nI 0)) (kB D A (fun (_ : Unit) => ([] : va_W))) A) (cc := cX4_isFrame) (maxL := 1) (ret := (some .boolean)) (by decide) rfl (Nat.le_of_ble_eq_true rfl) ?_
  intro p e s m below meth c A ls hfix hr hlk hN hP hK hD hA hS hl
  have hfix : CallFix p m c cX4_isFrame 1 s [.int x].toArray wsX4_isFrame RX4 := hfix
  have hl : lv_has ls 1 [(0, .int x)] := hl
  obtain ⟨hx, hb, hml, hown, hts⟩ := id hfix
  have hP : va_P D vwCl [] s.heap := hP
  have hD : va_D A [] := hD
  have hS : ∃ (H : Heap) (locs : List Loc), H = s.heap ∧ locs = [] ∧ va_S A s.heap H locs := ⟨_, _, rfl, rfl, hS⟩
  obtain ⟨H, locs, hH, hlocs, hS⟩ := hS
  rw [← hH] at hP
  suffices hW9 : W p l e ({ frames := 0, cells := 0, slots := 0, locals := 0 } : Room) s m [.int x].toArray below meth c H locs 0 0 (MQ below (va_Qi (fun (r : Int32) (_ : Unit) => r = (if inR x 100 then nI 1 else nI 0)) (kB D A (fun (_ : Unit) => ([] : va_W))) A) [.int x].toArray s 0 0 A) (F0 m 0 ls []) by rw [hH, hlocs] at hW9; exact hW9
  clear hH hlocs
  refine lv_iload_n hx hb dX4_isFrame_0 rfl (lv_at hl 0 rfl) ?_
  refine lv_if_lt (tgt := 14) hx hb dX4_isFrame_1 (by decide) (fun c_1 => ?_) (fun c_1 => ?_)
  · -- c_1 taken
    refine lv_iconst (v := nI 0) hx hb dX4_isFrame_14 (by decide) ?_
    exact k_iret (v := nI 0) hx hb hr hlk (by decide) () ((if_neg (fun h => h.1 c_1)).symm) hP hD hS dX4_isFrame_15
  · -- c_1 not taken
    refine lv_iload_n hx hb dX4_isFrame_4 rfl (lv_at hl 0 rfl) ?_
    refine lv_bipush (v := nI 100) hx hb dX4_isFrame_5 (by decide) ?_
    refine lv_icmp_ge (tgt := 14) hx hb dX4_isFrame_7 (by decide) (fun c_7 => ?_) (fun c_7 => ?_)
    · -- c_7 taken
      refine lv_iconst (v := nI 0) hx hb dX4_isFrame_14 (by decide) ?_
      exact k_iret (v := nI 0) hx hb hr hlk (by decide) () ((if_neg (fun h => h.2 c_7)).symm) hP hD hS dX4_isFrame_15
    · -- c_7 not taken
      refine lv_iconst (v := nI 1) hx hb dX4_isFrame_10 (by decide) ?_
      refine lv_goto (tgt := 15) hx hb dX4_isFrame_11 (by decide) ?_
      exact k_iret (v := nI 1) hx hb hr hlk (by decide) () ((if_pos ⟨c_1, c_7⟩).symm) hP hD hS dX4_isFrame_15
set_option maxHeartbeats 4000000 in
set_option maxRecDepth 100000 in
theorem c_X3_isFromOneTo (l : Launch) (D : va_G) (cI cZ : ClassId) (x y : Int32) : kMi l yX3_isFromOneTo wsX3_isFromOneTo 0 0 D (TY cI cZ) [.int x, .int y] [] (fun (r : Int32) (_ : Unit) => r = (if ¬ x < nI 1 ∧ ¬ y < x then nI 1 else nI 0)) (fun (_ : Unit) => ([] : va_W)) := by
  intro sz
  refine k_in (Qc := fun A => va_Qi (fun (r : Int32) (_ : Unit) => r = (if ¬ x < nI 1 ∧ ¬ y < x then nI 1 else nI 0)) (kB D A (fun (_ : Unit) => ([] : va_W))) A) (cc := cX3_isFromOneTo) (maxL := 2) (ret := (some .boolean)) (by decide) rfl (Nat.le_of_ble_eq_true rfl) ?_
  intro p e s m below meth c A ls hfix hr hlk hN hP hK hD hA hS hl
  have hfix : CallFix p m c cX3_isFromOneTo 2 s [.int x, .int y].toArray wsX3_isFromOneTo RX3 := hfix
  have hl : lv_has ls 2 [(0, .int x), (1, .int y)] := hl
  obtain ⟨hx, hb, hml, hown, hts⟩ := id hfix
  have hP : va_P D vwCl [] s.heap := hP
  have hD : va_D A [] := hD
  have hS : ∃ (H : Heap) (locs : List Loc), H = s.heap ∧ locs = [] ∧ va_S A s.heap H locs := ⟨_, _, rfl, rfl, hS⟩
  obtain ⟨H, locs, hH, hlocs, hS⟩ := hS
  rw [← hH] at hP
  suffices hW9 : W p l e ({ frames := 0, cells := 0, slots := 0, locals := 0 } : Room) s m [.int x, .int y].toArray below meth c H locs 0 0 (MQ below (va_Qi (fun (r : Int32) (_ : Unit) => r = (if ¬ x < nI 1 ∧ ¬ y < x then nI 1 else nI 0)) (kB D A (fun (_ : Unit) => ([] : va_W))) A) [.int x, .int y].toArray s 0 0 A) (F0 m 0 ls []) by rw [hH, hlocs] at hW9; exact hW9
  clear hH hlocs
  refine lv_iload_n hx hb dX3_isFromOneTo_0 rfl (lv_at hl 0 rfl) ?_
  refine lv_iconst (v := nI 1) hx hb dX3_isFromOneTo_1 (by decide) ?_
  refine lv_icmp_lt (tgt := 14) hx hb dX3_isFromOneTo_2 (by decide) (fun c_2 => ?_) (fun c_2 => ?_)
  · -- c_2 taken
    refine lv_iconst (v := nI 0) hx hb dX3_isFromOneTo_14 (by decide) ?_
    exact k_iret (v := nI 0) hx hb hr hlk (by decide) () ((if_neg (fun h => h.1 c_2)).symm) hP hD hS dX3_isFromOneTo_15
  · -- c_2 not taken
    refine lv_iload_n hx hb dX3_isFromOneTo_5 rfl (lv_at hl 0 rfl) ?_
    refine lv_iload_n hx hb dX3_isFromOneTo_6 rfl (lv_at hl 1 rfl) ?_
    refine lv_icmp_gt (tgt := 14) hx hb dX3_isFromOneTo_7 (by decide) (fun c_7 => ?_) (fun c_7 => ?_)
    · -- c_7 taken
      refine lv_iconst (v := nI 0) hx hb dX3_isFromOneTo_14 (by decide) ?_
      exact k_iret (v := nI 0) hx hb hr hlk (by decide) () ((if_neg (fun h => h.2 c_7)).symm) hP hD hS dX3_isFromOneTo_15
    · -- c_7 not taken
      refine lv_iconst (v := nI 1) hx hb dX3_isFromOneTo_10 (by decide) ?_
      refine lv_goto (tgt := 15) hx hb dX3_isFromOneTo_11 (by decide) ?_
      exact k_iret (v := nI 1) hx hb hr hlk (by decide) () ((if_pos ⟨c_2, c_7⟩).symm) hP hD hS dX3_isFromOneTo_15
set_option maxHeartbeats 4000000 in
set_option maxRecDepth 100000 in
theorem c_X4_in (l : Launch) (D : va_G) (cI cZ : ClassId) (x y z : Int32) : kMi l yX4_in wsX4_in 0 0 D (TY cI cZ) [.int x, .int y, .int z] [] (fun (r : Int32) (_ : Unit) => r = (if ¬ x < y ∧ ¬ z < x then nI 1 else nI 0)) (fun (_ : Unit) => ([] : va_W)) := by
  intro sz
  refine k_in (Qc := fun A => va_Qi (fun (r : Int32) (_ : Unit) => r = (if ¬ x < y ∧ ¬ z < x then nI 1 else nI 0)) (kB D A (fun (_ : Unit) => ([] : va_W))) A) (cc := cX4_in) (maxL := 3) (ret := (some .boolean)) (by decide) rfl (Nat.le_of_ble_eq_true rfl) ?_
  intro p e s m below meth c A ls hfix hr hlk hN hP hK hD hA hS hl
  have hfix : CallFix p m c cX4_in 3 s [.int x, .int y, .int z].toArray wsX4_in RX4 := hfix
  have hl : lv_has ls 3 [(0, .int x), (1, .int y), (2, .int z)] := hl
  obtain ⟨hx, hb, hml, hown, hts⟩ := id hfix
  have hP : va_P D vwCl [] s.heap := hP
  have hD : va_D A [] := hD
  have hS : ∃ (H : Heap) (locs : List Loc), H = s.heap ∧ locs = [] ∧ va_S A s.heap H locs := ⟨_, _, rfl, rfl, hS⟩
  obtain ⟨H, locs, hH, hlocs, hS⟩ := hS
  rw [← hH] at hP
  suffices hW9 : W p l e ({ frames := 0, cells := 0, slots := 0, locals := 0 } : Room) s m [.int x, .int y, .int z].toArray below meth c H locs 0 0 (MQ below (va_Qi (fun (r : Int32) (_ : Unit) => r = (if ¬ x < y ∧ ¬ z < x then nI 1 else nI 0)) (kB D A (fun (_ : Unit) => ([] : va_W))) A) [.int x, .int y, .int z].toArray s 0 0 A) (F0 m 0 ls []) by rw [hH, hlocs] at hW9; exact hW9
  clear hH hlocs
  refine lv_iload_n hx hb dX4_in_0 rfl (lv_at hl 0 rfl) ?_
  refine lv_iload_n hx hb dX4_in_1 rfl (lv_at hl 1 rfl) ?_
  refine lv_icmp_lt (tgt := 14) hx hb dX4_in_2 (by decide) (fun c_2 => ?_) (fun c_2 => ?_)
  · -- c_2 taken
    refine lv_iconst (v := nI 0) hx hb dX4_in_14 (by decide) ?_
    exact k_iret (v := nI 0) hx hb hr hlk (by decide) () ((if_neg (fun h => h.1 c_2)).symm) hP hD hS dX4_in_15
  · -- c_2 not taken
    refine lv_iload_n hx hb dX4_in_5 rfl (lv_at hl 0 rfl) ?_
    refine lv_iload_n hx hb dX4_in_6 rfl (lv_at hl 2 rfl) ?_
    refine lv_icmp_gt (tgt := 14) hx hb dX4_in_7 (by decide) (fun c_7 => ?_) (fun c_7 => ?_)
    · -- c_7 taken
      refine lv_iconst (v := nI 0) hx hb dX4_in_14 (by decide) ?_
      exact k_iret (v := nI 0) hx hb hr hlk (by decide) () ((if_neg (fun h => h.2 c_7)).symm) hP hD hS dX4_in_15
    · -- c_7 not taken
      refine lv_iconst (v := nI 1) hx hb dX4_in_10 (by decide) ?_
      refine lv_goto (tgt := 15) hx hb dX4_in_11 (by decide) ?_
      exact k_iret (v := nI 1) hx hb hr hlk (by decide) () ((if_pos ⟨c_2, c_7⟩).symm) hP hD hS dX4_in_15
set_option maxHeartbeats 4000000 in
set_option maxRecDepth 100000 in
theorem c_X0_kind (l : Launch) (D : va_G) (cI cZ : ClassId) (f : Nat) (hf : f < 100) : kMi l yX0_kind wsX0_kind 0 0 D (TY cI cZ) [.int (nI f)] [] (fun (r : Int32) (_ : Unit) => r = (if f % 6 = 0 then nI 0 else (if f % 3 = 0 then nI 1 else nI 2))) (fun (_ : Unit) => ([] : va_W)) := by
  intro sz
  refine k_in (Qc := fun A => va_Qi (fun (r : Int32) (_ : Unit) => r = (if f % 6 = 0 then nI 0 else (if f % 3 = 0 then nI 1 else nI 2))) (kB D A (fun (_ : Unit) => ([] : va_W))) A) (cc := cX0_kind) (maxL := 1) (ret := (some .int)) (by decide) rfl (Nat.le_of_ble_eq_true rfl) ?_
  intro p e s m below meth c A ls hfix hr hlk hN hP hK hD hA hS hl
  have hfix : CallFix p m c cX0_kind 1 s [.int (nI f)].toArray wsX0_kind RX0 := hfix
  have hl : lv_has ls 1 [(0, .int (nI f))] := hl
  obtain ⟨hx, hb, hml, hown, hts⟩ := id hfix
  have hP : va_P D vwCl [] s.heap := hP
  have hD : va_D A [] := hD
  have hS : ∃ (H : Heap) (locs : List Loc), H = s.heap ∧ locs = [] ∧ va_S A s.heap H locs := ⟨_, _, rfl, rfl, hS⟩
  obtain ⟨H, locs, hH, hlocs, hS⟩ := hS
  rw [← hH] at hP
  suffices hW9 : W p l e ({ frames := 0, cells := 0, slots := 0, locals := 0 } : Room) s m [.int (nI f)].toArray below meth c H locs 0 0 (MQ below (va_Qi (fun (r : Int32) (_ : Unit) => r = (if f % 6 = 0 then nI 0 else (if f % 3 = 0 then nI 1 else nI 2))) (kB D A (fun (_ : Unit) => ([] : va_W))) A) [.int (nI f)].toArray s 0 0 A) (F0 m 0 ls []) by rw [hH, hlocs] at hW9; exact hW9
  clear hH hlocs
  refine lv_iload_n hx hb dX0_kind_0 rfl (lv_at hl 0 rfl) ?_
  refine lv_bipush (v := nI 6) hx hb dX0_kind_1 (by decide) ?_
  refine k_irem hx hb (by omega) (by decide) (by decide) dX0_kind_3 ?_
  refine k_if_ne (tgt := 9) hx hb (by omega) dX0_kind_4 (by decide) (fun c_4 => ?_) (fun c_4 => ?_)
  · -- c_4 taken
    refine lv_iload_n hx hb dX0_kind_9 rfl (lv_at hl 0 rfl) ?_
    refine lv_iconst (v := nI 3) hx hb dX0_kind_10 (by decide) ?_
    refine k_irem hx hb (by omega) (by decide) (by decide) dX0_kind_11 ?_
    refine k_if_ne (tgt := 19) hx hb (by omega) dX0_kind_12 (by decide) (fun c_12 => ?_) (fun c_12 => ?_)
    · -- c_12 taken
      refine lv_iconst (v := nI 2) hx hb dX0_kind_19 (by decide) ?_
      exact k_iret (v := nI 2) hx hb hr hlk rfl () (by rw [if_neg c_4, if_neg c_12]) hP hD hS dX0_kind_20
    · -- c_12 not taken
      refine lv_iconst (v := nI 1) hx hb dX0_kind_15 (by decide) ?_
      refine lv_goto (tgt := 20) hx hb dX0_kind_16 (by decide) ?_
      exact k_iret (v := nI 1) hx hb hr hlk rfl () (by rw [if_neg c_4, if_pos c_12]) hP hD hS dX0_kind_20
  · -- c_4 not taken
    refine lv_iconst (v := nI 0) hx hb dX0_kind_7 (by decide) ?_
    exact k_iret (v := nI 0) hx hb hr hlk rfl () ((if_pos c_4).symm) hP hD hS dX0_kind_8
set_option maxHeartbeats 4000000 in
set_option maxRecDepth 100000 in
theorem c_X4_kind (l : Launch) (D : va_G) (cI cZ : ClassId) (f : Nat) (hf : f < 100) : kMi l yX4_kind wsX4_kind 0 0 D (TY cI cZ) [.int (nI f)] [] (fun (r : Int32) (_ : Unit) => r = (if f % 6 = 0 then nI 0 else (if f % 3 = 0 then nI 1 else nI 2))) (fun (_ : Unit) => ([] : va_W)) := by
  intro sz
  refine k_in (Qc := fun A => va_Qi (fun (r : Int32) (_ : Unit) => r = (if f % 6 = 0 then nI 0 else (if f % 3 = 0 then nI 1 else nI 2))) (kB D A (fun (_ : Unit) => ([] : va_W))) A) (cc := cX4_kind) (maxL := 1) (ret := (some .int)) (by decide) rfl (Nat.le_of_ble_eq_true rfl) ?_
  intro p e s m below meth c A ls hfix hr hlk hN hP hK hD hA hS hl
  have hfix : CallFix p m c cX4_kind 1 s [.int (nI f)].toArray wsX4_kind RX4 := hfix
  have hl : lv_has ls 1 [(0, .int (nI f))] := hl
  obtain ⟨hx, hb, hml, hown, hts⟩ := id hfix
  have hP : va_P D vwCl [] s.heap := hP
  have hD : va_D A [] := hD
  have hS : ∃ (H : Heap) (locs : List Loc), H = s.heap ∧ locs = [] ∧ va_S A s.heap H locs := ⟨_, _, rfl, rfl, hS⟩
  obtain ⟨H, locs, hH, hlocs, hS⟩ := hS
  rw [← hH] at hP
  suffices hW9 : W p l e ({ frames := 0, cells := 0, slots := 0, locals := 0 } : Room) s m [.int (nI f)].toArray below meth c H locs 0 0 (MQ below (va_Qi (fun (r : Int32) (_ : Unit) => r = (if f % 6 = 0 then nI 0 else (if f % 3 = 0 then nI 1 else nI 2))) (kB D A (fun (_ : Unit) => ([] : va_W))) A) [.int (nI f)].toArray s 0 0 A) (F0 m 0 ls []) by rw [hH, hlocs] at hW9; exact hW9
  clear hH hlocs
  refine lv_iload_n hx hb dX4_kind_0 rfl (lv_at hl 0 rfl) ?_
  refine lv_bipush (v := nI 6) hx hb dX4_kind_1 (by decide) ?_
  refine k_irem hx hb (by omega) (by decide) (by decide) dX4_kind_3 ?_
  refine k_if_ne (tgt := 11) hx hb (by omega) dX4_kind_4 (by decide) (fun c_4 => ?_) (fun c_4 => ?_)
  · -- c_4 taken
    refine lv_iload_n hx hb dX4_kind_11 rfl (lv_at hl 0 rfl) ?_
    refine lv_iconst (v := nI 3) hx hb dX4_kind_12 (by decide) ?_
    refine k_irem hx hb (by omega) (by decide) (by decide) dX4_kind_13 ?_
    refine k_if_ne (tgt := 21) hx hb (by omega) dX4_kind_14 (by decide) (fun c_14 => ?_) (fun c_14 => ?_)
    · -- c_14 taken
      refine lv_iconst (v := nI 2) hx hb dX4_kind_21 (by decide) ?_
      exact k_iret (v := nI 2) hx hb hr hlk rfl () (by rw [if_neg c_4, if_neg c_14]) hP hD hS dX4_kind_22
    · -- c_14 not taken
      refine lv_iconst (v := nI 1) hx hb dX4_kind_17 (by decide) ?_
      refine lv_goto (tgt := 22) hx hb dX4_kind_18 (by decide) ?_
      exact k_iret (v := nI 1) hx hb hr hlk rfl () (by rw [if_neg c_4, if_pos c_14]) hP hD hS dX4_kind_22
  · -- c_4 not taken
    refine lv_iconst (v := nI 0) hx hb dX4_kind_7 (by decide) ?_
    refine lv_goto (tgt := 22) hx hb dX4_kind_8 (by decide) ?_
    exact k_iret (v := nI 0) hx hb hr hlk rfl () ((if_pos c_4).symm) hP hD hS dX4_kind_22
set_option maxHeartbeats 4000000 in
set_option maxRecDepth 100000 in
theorem c_X0_needBefore (l : Launch) (D : va_G) (cI cZ : ClassId) (f : Nat) (hf : f < 100) : kMi l yX0_needBefore wsX0_needBefore 1 20 D (TY cI cZ) [.int (nI f)] [] (fun (r : Int32) (_ : Unit) => r = (if f % 6 = 0 then (-1) else nI (bef f))) (fun (_ : Unit) => ([] : va_W)) := by
  intro sz
  refine k_in (Qc := fun A => va_Qi (fun (r : Int32) (_ : Unit) => r = (if f % 6 = 0 then (-1) else nI (bef f))) (kB D A (fun (_ : Unit) => ([] : va_W))) A) (cc := cX0_needBefore) (maxL := 2) (ret := (some .int)) (by decide) rfl (Nat.le_of_ble_eq_true rfl) ?_
  intro p e s m below meth c A ls hfix hr hlk hN hP hK hD hA hS hl
  have hfix : CallFix p m c cX0_needBefore 2 s [.int (nI f)].toArray wsX0_needBefore RX0 := hfix
  have hl : lv_has ls 2 [(0, .int (nI f))] := hl
  obtain ⟨hx, hb, hml, hown, hts⟩ := id hfix
  have hP : va_P D vwCl [] s.heap := hP
  have hD : va_D A [] := hD
  have hS : ∃ (H : Heap) (locs : List Loc), H = s.heap ∧ locs = [] ∧ va_S A s.heap H locs := ⟨_, _, rfl, rfl, hS⟩
  obtain ⟨H, locs, hH, hlocs, hS⟩ := hS
  rw [← hH] at hP
  suffices hW9 : W p l e ({ frames := 1, cells := 0, slots := 0, locals := 20 } : Room) s m [.int (nI f)].toArray below meth c H locs 0 0 (MQ below (va_Qi (fun (r : Int32) (_ : Unit) => r = (if f % 6 = 0 then (-1) else nI (bef f))) (kB D A (fun (_ : Unit) => ([] : va_W))) A) [.int (nI f)].toArray s 0 0 A) (F0 m 0 ls []) by rw [hH, hlocs] at hW9; exact hW9
  clear hH hlocs
  refine lv_iload_n hx hb dX0_needBefore_0 rfl (lv_at hl 0 rfl) ?_
  refine k_callSi (n := 1) (As := [.int (nI f)]) (rest := []) hfix hN hK hP hD hS hA hl.1 (c_X0_kind l D cI cZ f (by omega)) (fun _ => rfl) gX0_needBefore_X0_kind rfl (by decide +kernel) rfl ⟨Nat.le_of_ble_eq_true rfl, Nat.le_of_ble_eq_true rfl⟩ [] rfl (by decide) rfl (Nat.le_of_ble_eq_true rfl) ⟨Nat.zero_le _, Nat.zero_le _⟩ dX0_needBefore_1 (fun r_1 u H locs hw_1 hP hD hS => ?_)
  by_cases e_1 : f % 6 = 0
  · rw [if_pos e_1] at hw_1
    obtain rfl : r_1 = nI 0 := hw_1
    refine lv_istore_n (lv' := [(1, .int (nI 0)), (0, .int (nI f))]) hx hb dX0_needBefore_4 rfl hl (by decide) rfl (fun ls hl => ?_)
    refine lv_iload_n hx hb dX0_needBefore_5 rfl (lv_at hl 0 rfl) ?_
    refine k_if_ne (tgt := 11) hx hb (by decide) dX0_needBefore_6 (by decide) (fun q => absurd q (by decide)) (fun _ => ?_)
    refine lv_iconst (v := (-1)) hx hb dX0_needBefore_9 (by decide) ?_
    exact k_iret (v := (-1)) hx hb hr hlk rfl () ((if_pos e_1).symm) hP hD hS dX0_needBefore_10
  · rw [if_neg e_1] at hw_1
    by_cases e_1_1 : f % 3 = 0
    · rw [if_pos e_1_1] at hw_1
      obtain rfl : r_1 = nI 1 := hw_1
      refine lv_istore_n (lv' := [(1, .int (nI 1)), (0, .int (nI f))]) hx hb dX0_needBefore_4 rfl hl (by decide) rfl (fun ls hl => ?_)
      refine lv_iload_n hx hb dX0_needBefore_5 rfl (lv_at hl 0 rfl) ?_
      refine k_if_ne (tgt := 11) hx hb (by decide) dX0_needBefore_6 (by decide) (fun _ => ?_) (fun q => absurd q (by decide))
      refine lv_iload_n hx hb dX0_needBefore_11 rfl (lv_at hl 0 rfl) ?_
      refine lv_iconst (v := nI 1) hx hb dX0_needBefore_12 (by decide) ?_
      refine k_icmp_ne (tgt := 22) hx hb (by decide) (by decide) dX0_needBefore_13 (by decide) (fun q => absurd q (by decide)) (fun _ => ?_)
      refine lv_iload_n hx hb dX0_needBefore_16 rfl (lv_at hl 1 rfl) ?_
      refine lv_iconst (v := nI 3) hx hb dX0_needBefore_17 (by decide) ?_
      refine k_isub hx hb (by omega) dX0_needBefore_18 ?_
      refine lv_goto (tgt := 27) hx hb dX0_needBefore_19 (by decide) ?_
      exact k_iret (v := nI (f - 3)) hx hb hr hlk rfl () (by rw [if_neg e_1, bef, if_pos e_1_1]) hP hD hS dX0_needBefore_27
    · rw [if_neg e_1_1] at hw_1
      obtain rfl : r_1 = nI 2 := hw_1
      refine lv_istore_n (lv' := [(1, .int (nI 2)), (0, .int (nI f))]) hx hb dX0_needBefore_4 rfl hl (by decide) rfl (fun ls hl => ?_)
      refine lv_iload_n hx hb dX0_needBefore_5 rfl (lv_at hl 0 rfl) ?_
      refine k_if_ne (tgt := 11) hx hb (by decide) dX0_needBefore_6 (by decide) (fun _ => ?_) (fun q => absurd q (by decide))
      refine lv_iload_n hx hb dX0_needBefore_11 rfl (lv_at hl 0 rfl) ?_
      refine lv_iconst (v := nI 1) hx hb dX0_needBefore_12 (by decide) ?_
      refine k_icmp_ne (tgt := 22) hx hb (by decide) (by decide) dX0_needBefore_13 (by decide) (fun _ => ?_) (fun q => absurd q (by decide))
      refine lv_iload_n hx hb dX0_needBefore_22 rfl (lv_at hl 1 rfl) ?_
      refine lv_iload_n hx hb dX0_needBefore_23 rfl (lv_at hl 1 rfl) ?_
      refine lv_iconst (v := nI 3) hx hb dX0_needBefore_24 (by decide) ?_
      refine k_irem hx hb (by omega) (by decide) (by decide) dX0_needBefore_25 ?_
      refine k_isub hx hb (by omega) dX0_needBefore_26 ?_
      exact k_iret (v := nI (f - (f % 3))) hx hb hr hlk rfl () (by rw [if_neg e_1, bef, if_neg e_1_1]) hP hD hS dX0_needBefore_27
set_option maxHeartbeats 4000000 in
set_option maxRecDepth 100000 in
theorem c_X4_before (l : Launch) (D : va_G) (cI cZ : ClassId) (f : Nat) (hf : f < 100) : kMi l yX4_before wsX4_before 1 20 D (TY cI cZ) [.int (nI f)] [] (fun (r : Int32) (_ : Unit) => r = (if f % 6 = 0 then (-1) else nI (bef f))) (fun (_ : Unit) => ([] : va_W)) := by
  intro sz
  refine k_in (Qc := fun A => va_Qi (fun (r : Int32) (_ : Unit) => r = (if f % 6 = 0 then (-1) else nI (bef f))) (kB D A (fun (_ : Unit) => ([] : va_W))) A) (cc := cX4_before) (maxL := 2) (ret := (some .int)) (by decide) rfl (Nat.le_of_ble_eq_true rfl) ?_
  intro p e s m below meth c A ls hfix hr hlk hN hP hK hD hA hS hl
  have hfix : CallFix p m c cX4_before 2 s [.int (nI f)].toArray wsX4_before RX4 := hfix
  have hl : lv_has ls 2 [(0, .int (nI f))] := hl
  obtain ⟨hx, hb, hml, hown, hts⟩ := id hfix
  have hP : va_P D vwCl [] s.heap := hP
  have hD : va_D A [] := hD
  have hS : ∃ (H : Heap) (locs : List Loc), H = s.heap ∧ locs = [] ∧ va_S A s.heap H locs := ⟨_, _, rfl, rfl, hS⟩
  obtain ⟨H, locs, hH, hlocs, hS⟩ := hS
  rw [← hH] at hP
  suffices hW9 : W p l e ({ frames := 1, cells := 0, slots := 0, locals := 20 } : Room) s m [.int (nI f)].toArray below meth c H locs 0 0 (MQ below (va_Qi (fun (r : Int32) (_ : Unit) => r = (if f % 6 = 0 then (-1) else nI (bef f))) (kB D A (fun (_ : Unit) => ([] : va_W))) A) [.int (nI f)].toArray s 0 0 A) (F0 m 0 ls []) by rw [hH, hlocs] at hW9; exact hW9
  clear hH hlocs
  refine lv_iload_n hx hb dX4_before_0 rfl (lv_at hl 0 rfl) ?_
  refine k_callSi (n := 1) (As := [.int (nI f)]) (rest := []) hfix hN hK hP hD hS hA hl.1 (c_X4_kind l D cI cZ f (by omega)) (fun _ => rfl) gX4_before_X4_kind rfl (by decide +kernel) rfl ⟨Nat.le_of_ble_eq_true rfl, Nat.le_of_ble_eq_true rfl⟩ [] rfl (by decide) rfl (Nat.le_of_ble_eq_true rfl) ⟨Nat.zero_le _, Nat.zero_le _⟩ dX4_before_1 (fun r_1 u H locs hw_1 hP hD hS => ?_)
  by_cases e_1 : f % 6 = 0
  · rw [if_pos e_1] at hw_1
    obtain rfl : r_1 = nI 0 := hw_1
    refine lv_istore_n (lv' := [(1, .int (nI 0)), (0, .int (nI f))]) hx hb dX4_before_4 rfl hl (by decide) rfl (fun ls hl => ?_)
    refine lv_iload_n hx hb dX4_before_5 rfl (lv_at hl 0 rfl) ?_
    refine k_if_ne (tgt := 13) hx hb (by decide) dX4_before_6 (by decide) (fun q => absurd q (by decide)) (fun _ => ?_)
    refine lv_iconst (v := (-1)) hx hb dX4_before_9 (by decide) ?_
    refine lv_goto (tgt := 29) hx hb dX4_before_10 (by decide) ?_
    exact k_iret (v := (-1)) hx hb hr hlk rfl () ((if_pos e_1).symm) hP hD hS dX4_before_29
  · rw [if_neg e_1] at hw_1
    by_cases e_1_1 : f % 3 = 0
    · rw [if_pos e_1_1] at hw_1
      obtain rfl : r_1 = nI 1 := hw_1
      refine lv_istore_n (lv' := [(1, .int (nI 1)), (0, .int (nI f))]) hx hb dX4_before_4 rfl hl (by decide) rfl (fun ls hl => ?_)
      refine lv_iload_n hx hb dX4_before_5 rfl (lv_at hl 0 rfl) ?_
      refine k_if_ne (tgt := 13) hx hb (by decide) dX4_before_6 (by decide) (fun _ => ?_) (fun q => absurd q (by decide))
      refine lv_iload_n hx hb dX4_before_13 rfl (lv_at hl 0 rfl) ?_
      refine lv_iconst (v := nI 1) hx hb dX4_before_14 (by decide) ?_
      refine k_icmp_ne (tgt := 24) hx hb (by decide) (by decide) dX4_before_15 (by decide) (fun q => absurd q (by decide)) (fun _ => ?_)
      refine lv_iload_n hx hb dX4_before_18 rfl (lv_at hl 1 rfl) ?_
      refine lv_iconst (v := nI 3) hx hb dX4_before_19 (by decide) ?_
      refine k_isub hx hb (by omega) dX4_before_20 ?_
      refine lv_goto (tgt := 29) hx hb dX4_before_21 (by decide) ?_
      exact k_iret (v := nI (f - 3)) hx hb hr hlk rfl () (by rw [if_neg e_1, bef, if_pos e_1_1]) hP hD hS dX4_before_29
    · rw [if_neg e_1_1] at hw_1
      obtain rfl : r_1 = nI 2 := hw_1
      refine lv_istore_n (lv' := [(1, .int (nI 2)), (0, .int (nI f))]) hx hb dX4_before_4 rfl hl (by decide) rfl (fun ls hl => ?_)
      refine lv_iload_n hx hb dX4_before_5 rfl (lv_at hl 0 rfl) ?_
      refine k_if_ne (tgt := 13) hx hb (by decide) dX4_before_6 (by decide) (fun _ => ?_) (fun q => absurd q (by decide))
      refine lv_iload_n hx hb dX4_before_13 rfl (lv_at hl 0 rfl) ?_
      refine lv_iconst (v := nI 1) hx hb dX4_before_14 (by decide) ?_
      refine k_icmp_ne (tgt := 24) hx hb (by decide) (by decide) dX4_before_15 (by decide) (fun _ => ?_) (fun q => absurd q (by decide))
      refine lv_iload_n hx hb dX4_before_24 rfl (lv_at hl 1 rfl) ?_
      refine lv_iload_n hx hb dX4_before_25 rfl (lv_at hl 1 rfl) ?_
      refine lv_iconst (v := nI 3) hx hb dX4_before_26 (by decide) ?_
      refine k_irem hx hb (by omega) (by decide) (by decide) dX4_before_27 ?_
      refine k_isub hx hb (by omega) dX4_before_28 ?_
      exact k_iret (v := nI (f - (f % 3))) hx hb hr hlk rfl () (by rw [if_neg e_1, bef, if_neg e_1_1]) hP hD hS dX4_before_29
set_option maxHeartbeats 4000000 in
set_option maxRecDepth 100000 in
theorem c_X0_needBehind (l : Launch) (D : va_G) (cI cZ : ClassId) (f : Nat) (hf : f < 100) : kMi l yX0_needBehind wsX0_needBehind 1 20 D (TY cI cZ) [.int (nI f)] [] (fun (r : Int32) (_ : Unit) => r = (if f % 3 = 0 then (-1) else nI (beh f))) (fun (_ : Unit) => ([] : va_W)) := by
  intro sz
  refine k_in (Qc := fun A => va_Qi (fun (r : Int32) (_ : Unit) => r = (if f % 3 = 0 then (-1) else nI (beh f))) (kB D A (fun (_ : Unit) => ([] : va_W))) A) (cc := cX0_needBehind) (maxL := 1) (ret := (some .int)) (by decide) rfl (Nat.le_of_ble_eq_true rfl) ?_
  intro p e s m below meth c A ls hfix hr hlk hN hP hK hD hA hS hl
  have hfix : CallFix p m c cX0_needBehind 1 s [.int (nI f)].toArray wsX0_needBehind RX0 := hfix
  have hl : lv_has ls 1 [(0, .int (nI f))] := hl
  obtain ⟨hx, hb, hml, hown, hts⟩ := id hfix
  have hP : va_P D vwCl [] s.heap := hP
  have hD : va_D A [] := hD
  have hS : ∃ (H : Heap) (locs : List Loc), H = s.heap ∧ locs = [] ∧ va_S A s.heap H locs := ⟨_, _, rfl, rfl, hS⟩
  obtain ⟨H, locs, hH, hlocs, hS⟩ := hS
  rw [← hH] at hP
  suffices hW9 : W p l e ({ frames := 1, cells := 0, slots := 0, locals := 20 } : Room) s m [.int (nI f)].toArray below meth c H locs 0 0 (MQ below (va_Qi (fun (r : Int32) (_ : Unit) => r = (if f % 3 = 0 then (-1) else nI (beh f))) (kB D A (fun (_ : Unit) => ([] : va_W))) A) [.int (nI f)].toArray s 0 0 A) (F0 m 0 ls []) by rw [hH, hlocs] at hW9; exact hW9
  clear hH hlocs
  refine lv_iload_n hx hb dX0_needBehind_0 rfl (lv_at hl 0 rfl) ?_
  refine k_callSi (n := 1) (As := [.int (nI f)]) (rest := []) hfix hN hK hP hD hS hA hl.1 (c_X0_kind l D cI cZ f (by omega)) (fun _ => rfl) gX0_needBehind_X0_kind rfl (by decide +kernel) rfl ⟨Nat.le_of_ble_eq_true rfl, Nat.le_of_ble_eq_true rfl⟩ [] rfl (by decide) rfl (Nat.le_of_ble_eq_true rfl) ⟨Nat.zero_le _, Nat.zero_le _⟩ dX0_needBehind_1 (fun r_1 u H locs hw_1 hP hD hS => ?_)
  by_cases e_1 : f % 6 = 0
  · rw [if_pos e_1] at hw_1
    obtain rfl : r_1 = nI 0 := hw_1
    refine lv_iconst (v := nI 2) hx hb dX0_needBehind_4 (by decide) ?_
    refine k_icmp_ne (tgt := 18) hx hb (by decide) (by decide) dX0_needBehind_5 (by decide) (fun _ => ?_) (fun q => absurd q (by decide))
    refine lv_iconst (v := (-1)) hx hb dX0_needBehind_18 (by decide) ?_
    exact k_iret (v := (-1)) hx hb hr hlk rfl () (by rw [if_pos (by omega)]) hP hD hS dX0_needBehind_19
  · rw [if_neg e_1] at hw_1
    by_cases e_1_1 : f % 3 = 0
    · rw [if_pos e_1_1] at hw_1
      obtain rfl : r_1 = nI 1 := hw_1
      refine lv_iconst (v := nI 2) hx hb dX0_needBehind_4 (by decide) ?_
      refine k_icmp_ne (tgt := 18) hx hb (by decide) (by decide) dX0_needBehind_5 (by decide) (fun _ => ?_) (fun q => absurd q (by decide))
      refine lv_iconst (v := (-1)) hx hb dX0_needBehind_18 (by decide) ?_
      exact k_iret (v := (-1)) hx hb hr hlk rfl () (by rw [if_pos (by omega)]) hP hD hS dX0_needBehind_19
    · rw [if_neg e_1_1] at hw_1
      obtain rfl : r_1 = nI 2 := hw_1
      refine lv_iconst (v := nI 2) hx hb dX0_needBehind_4 (by decide) ?_
      refine k_icmp_ne (tgt := 18) hx hb (by decide) (by decide) dX0_needBehind_5 (by decide) (fun q => absurd q (by decide)) (fun _ => ?_)
      refine lv_iload_n hx hb dX0_needBehind_8 rfl (lv_at hl 0 rfl) ?_
      refine lv_iload_n hx hb dX0_needBehind_9 rfl (lv_at hl 0 rfl) ?_
      refine lv_iconst (v := nI 3) hx hb dX0_needBehind_10 (by decide) ?_
      refine k_irem hx hb (by omega) (by decide) (by decide) dX0_needBehind_11 ?_
      refine k_isub hx hb (by omega) dX0_needBehind_12 ?_
      refine lv_iconst (v := nI 3) hx hb dX0_needBehind_13 (by decide) ?_
      refine k_iadd hx hb dX0_needBehind_14 ?_
      refine lv_goto (tgt := 19) hx hb dX0_needBehind_15 (by decide) ?_
      exact k_iret (v := nI ((f - (f % 3)) + 3)) hx hb hr hlk rfl () (by rw [if_neg (by omega), beh]) hP hD hS dX0_needBehind_19
set_option maxHeartbeats 4000000 in
set_option maxRecDepth 100000 in
theorem c_X4_behind (l : Launch) (D : va_G) (cI cZ : ClassId) (f : Nat) (hf : f < 100) : kMi l yX4_behind wsX4_behind 1 20 D (TY cI cZ) [.int (nI f)] [] (fun (r : Int32) (_ : Unit) => r = (if f % 3 = 0 then (-1) else nI (beh f))) (fun (_ : Unit) => ([] : va_W)) := by
  intro sz
  refine k_in (Qc := fun A => va_Qi (fun (r : Int32) (_ : Unit) => r = (if f % 3 = 0 then (-1) else nI (beh f))) (kB D A (fun (_ : Unit) => ([] : va_W))) A) (cc := cX4_behind) (maxL := 2) (ret := (some .int)) (by decide) rfl (Nat.le_of_ble_eq_true rfl) ?_
  intro p e s m below meth c A ls hfix hr hlk hN hP hK hD hA hS hl
  have hfix : CallFix p m c cX4_behind 2 s [.int (nI f)].toArray wsX4_behind RX4 := hfix
  have hl : lv_has ls 2 [(0, .int (nI f))] := hl
  obtain ⟨hx, hb, hml, hown, hts⟩ := id hfix
  have hP : va_P D vwCl [] s.heap := hP
  have hD : va_D A [] := hD
  have hS : ∃ (H : Heap) (locs : List Loc), H = s.heap ∧ locs = [] ∧ va_S A s.heap H locs := ⟨_, _, rfl, rfl, hS⟩
  obtain ⟨H, locs, hH, hlocs, hS⟩ := hS
  rw [← hH] at hP
  suffices hW9 : W p l e ({ frames := 1, cells := 0, slots := 0, locals := 20 } : Room) s m [.int (nI f)].toArray below meth c H locs 0 0 (MQ below (va_Qi (fun (r : Int32) (_ : Unit) => r = (if f % 3 = 0 then (-1) else nI (beh f))) (kB D A (fun (_ : Unit) => ([] : va_W))) A) [.int (nI f)].toArray s 0 0 A) (F0 m 0 ls []) by rw [hH, hlocs] at hW9; exact hW9
  clear hH hlocs
  refine lv_iload_n hx hb dX4_behind_0 rfl (lv_at hl 0 rfl) ?_
  refine lv_iload_n hx hb dX4_behind_1 rfl (lv_at hl 0 rfl) ?_
  refine lv_iconst (v := nI 3) hx hb dX4_behind_2 (by decide) ?_
  refine k_irem hx hb (by omega) (by decide) (by decide) dX4_behind_3 ?_
  refine k_isub hx hb (by omega) dX4_behind_4 ?_
  refine lv_iconst (v := nI 3) hx hb dX4_behind_5 (by decide) ?_
  refine k_iadd hx hb dX4_behind_6 ?_
  refine lv_istore_n (lv' := [(1, .int (nI ((f - (f % 3)) + 3))), (0, .int (nI f))]) hx hb dX4_behind_7 rfl hl (by decide) rfl (fun ls hl => ?_)
  refine lv_iload_n hx hb dX4_behind_8 rfl (lv_at hl 1 rfl) ?_
  refine k_callSi (n := 1) (As := [.int (nI f)]) (rest := []) hfix hN hK hP hD hS hA hl.1 (c_X4_kind l D cI cZ f (by omega)) (fun _ => rfl) gX4_behind_X4_kind rfl (by decide +kernel) rfl ⟨Nat.le_of_ble_eq_true rfl, Nat.le_of_ble_eq_true rfl⟩ [] rfl (by decide) rfl (Nat.le_of_ble_eq_true rfl) ⟨Nat.zero_le _, Nat.zero_le _⟩ dX4_behind_9 (fun r_9 u H locs hw_9 hP hD hS => ?_)
  by_cases e_9 : f % 6 = 0
  · rw [if_pos e_9] at hw_9
    obtain rfl : r_9 = nI 0 := hw_9
    refine lv_iconst (v := nI 2) hx hb dX4_behind_12 (by decide) ?_
    refine k_icmp_ne (tgt := 26) hx hb (by decide) (by decide) dX4_behind_13 (by decide) (fun _ => ?_) (fun q => absurd q (by decide))
    refine lv_iconst (v := (-1)) hx hb dX4_behind_26 (by decide) ?_
    exact k_iret (v := (-1)) hx hb hr hlk rfl () (by rw [if_pos (by omega)]) hP hD hS dX4_behind_27
  · rw [if_neg e_9] at hw_9
    by_cases e_9_1 : f % 3 = 0
    · rw [if_pos e_9_1] at hw_9
      obtain rfl : r_9 = nI 1 := hw_9
      refine lv_iconst (v := nI 2) hx hb dX4_behind_12 (by decide) ?_
      refine k_icmp_ne (tgt := 26) hx hb (by decide) (by decide) dX4_behind_13 (by decide) (fun _ => ?_) (fun q => absurd q (by decide))
      refine lv_iconst (v := (-1)) hx hb dX4_behind_26 (by decide) ?_
      exact k_iret (v := (-1)) hx hb hr hlk rfl () (by rw [if_pos (by omega)]) hP hD hS dX4_behind_27
    · rw [if_neg e_9_1] at hw_9
      obtain rfl : r_9 = nI 2 := hw_9
      refine lv_iconst (v := nI 2) hx hb dX4_behind_12 (by decide) ?_
      refine k_icmp_ne (tgt := 26) hx hb (by decide) (by decide) dX4_behind_13 (by decide) (fun q => absurd q (by decide)) (fun _ => ?_)
      refine lv_iload_n hx hb dX4_behind_16 rfl (lv_at hl 0 rfl) ?_
      refine lv_bipush (v := nI 100) hx hb dX4_behind_17 (by decide) ?_
      refine k_icmp_ge (tgt := 26) hx hb (by omega) (by omega) dX4_behind_19 (by decide) (fun c_19 => absurd c_19 (by omega)) (fun c_19 => ?_)
      refine lv_iload_n hx hb dX4_behind_22 rfl (lv_at hl 0 rfl) ?_
      refine lv_goto (tgt := 27) hx hb dX4_behind_23 (by decide) ?_
      exact k_iret (v := nI ((f - (f % 3)) + 3)) hx hb hr hlk rfl () (by rw [if_neg (by omega), beh]) hP hD hS dX4_behind_27
end
section
/-! the ring -/
set_option maxHeartbeats 4000000 in
set_option maxRecDepth 100000 in
theorem c_X1_put (l : Launch) (D : va_G) (cI cZ : ClassId) (q : Nat → Nat) (a : AS) (hI : AI a) (x : Int32) : kMi l yX1_put wsX1_put 0 0 D (TY cI cZ) [.ref (q 1), .int x, .int (nI (a.1 7))] [(q 1, .inr (1, [.ref (q 10), .ref (q 11), .int (nI (a.1 4)), .int (nI (a.1 0)), .int (nI (a.1 1)), .int (nI (a.1 2)), .int (nI (a.1 3)), .int (nI (a.1 5)), .int (nI (a.1 6))])), (q 10, .inl (cI, 32, .inl (a.2 0))), (q 11, .inl (cI, 32, .inl (a.2 1)))] (fun (r : Int32) (_ : Unit) => r = (if a.1 4 < a.1 0 then nI 1 else nI 0)) (fun (_ : Unit) => RWa cI q (a_come x a)) := by
  obtain ⟨⟨i0, i4, i5, i7, i9, i10, i11, i12⟩, ⟨i1, i2, i3⟩, ⟨i8, i13, i14⟩, iQ, iH0, iH1, iW0, iW1, iN⟩ := id hI
  intro sz
  refine k_in (Qc := fun A => va_Qi (fun (r : Int32) (_ : Unit) => r = (if a.1 4 < a.1 0 then nI 1 else nI 0)) (kB D A (fun (_ : Unit) => RWa cI q (a_come x a))) A) (cc := cX1_put) (maxL := 3) (ret := (some .boolean)) (by decide) rfl (Nat.le_of_ble_eq_true rfl) ?_
  intro p e s m below meth c A ls hfix hr hlk hN hP hK hD hA hS hl
  have hfix : CallFix p m c cX1_put 3 s [.ref (q 1), .int x, .int (nI (a.1 7))].toArray wsX1_put RX1 := hfix
  have hl : lv_has ls 3 [(0, .ref (q 1)), (1, .int x), (2, .int (nI (a.1 7)))] := hl
  obtain ⟨hx, hb, hml, hown, hts⟩ := id hfix
  have hinX1 : ∀ w ∈ wsX10, w ∈ wsX1_put := fun _ h => List.mem_cons_of_mem _ (List.mem_append_right _ h)
  have hP : va_P D vwCl [(q 1, .inr (1, [.ref (q 10), .ref (q 11), .int (nI (a.1 4)), .int (nI (a.1 0)), .int (nI (a.1 1)), .int (nI (a.1 2)), .int (nI (a.1 3)), .int (nI (a.1 5)), .int (nI (a.1 6))])), (q 10, .inl (cI, 32, .inl (a.2 0))), (q 11, .inl (cI, 32, .inl (a.2 1)))] s.heap := hP
  have hD : va_D A [(q 1, .inr (1, [.ref (q 10), .ref (q 11), .int (nI (a.1 4)), .int (nI (a.1 0)), .int (nI (a.1 1)), .int (nI (a.1 2)), .int (nI (a.1 3)), .int (nI (a.1 5)), .int (nI (a.1 6))])), (q 10, .inl (cI, 32, .inl (a.2 0))), (q 11, .inl (cI, 32, .inl (a.2 1)))] := hD
  have hS : ∃ (H : Heap) (locs : List Loc), H = s.heap ∧ locs = [] ∧ va_S A s.heap H locs := ⟨_, _, rfl, rfl, hS⟩
  obtain ⟨H, locs, hH, hlocs, hS⟩ := hS
  rw [← hH] at hP
  suffices hW9 : W p l e ({ frames := 0, cells := 0, slots := 0, locals := 0 } : Room) s m [.ref (q 1), .int x, .int (nI (a.1 7))].toArray below meth c H locs 0 0 (MQ below (va_Qi (fun (r : Int32) (_ : Unit) => r = (if a.1 4 < a.1 0 then nI 1 else nI 0)) (kB D A (fun (_ : Unit) => RWa cI q (a_come x a))) A) [.ref (q 1), .int x, .int (nI (a.1 7))].toArray s 0 0 A) (F0 m 0 ls []) by rw [hH, hlocs] at hW9; exact hW9
  clear hH hlocs
  refine lv_aload_n hx hb dX1_put_0 rfl (lv_at hl 0 rfl) ?_
  refine va_get (D := D) (ci := 1) (v := .int (nI (a.1 4))) (C := RX1) (T := TX1) (N := 9) hx hb hts hinX1 hown hK hP 0 rfl rfl 2 (by decide) (hts _ (List.mem_of_getElem? (i := 1) rfl)) (fun _ h9 => h9) rfl dX1_put_1 ?_
  refine lv_aload_n hx hb dX1_put_4 rfl (lv_at hl 0 rfl) ?_
  refine va_get (D := D) (ci := 1) (v := .int (nI (a.1 0))) (C := RX1) (T := TX1) (N := 9) hx hb hts hinX1 hown hK hP 0 rfl rfl 3 (by decide) (hts _ (List.mem_of_getElem? (i := 2) rfl)) (fun _ h9 => h9) rfl dX1_put_5 ?_
  refine k_icmp_ge (tgt := 20) hx hb (by omega) (by omega) dX1_put_8 (by decide) (fun c_8 => ?_) (fun c_8 => ?_)
  · -- c_8 taken
    refine lv_aload_n hx hb dX1_put_20 rfl (lv_at hl 0 rfl) ?_
    refine lv_dup hx hb dX1_put_21 rfl ?_
    refine va_get (D := D) (ci := 1) (v := .int (nI (a.1 6))) (C := RX1) (T := TX1) (N := 9) hx hb hts hinX1 hown hK hP 0 rfl rfl 8 (by decide) (hts _ (List.mem_of_getElem? (i := 3) rfl)) (fun _ h9 => h9) rfl dX1_put_22 ?_
    refine lv_iconst (v := nI 1) hx hb dX1_put_25 (by decide) ?_
    refine k_iadd hx hb dX1_put_26 ?_
    refine va_put (D := D) (ci := 1) (v := .int (nI ((a.1 6) + 1))) (ty := .int) (C := RX1) (T := TX1) (N := 9) hx hb hts hinX1 tyX1 tyX1_ok nmX1 hown hK hP hD hS 0 rfl rfl 8 (by decide) (hts _ (List.mem_of_getElem? (i := 3) rfl)) (fun _ h9 => h9) rfl (by decide +kernel) rfl rfl (Nat.le_of_ble_eq_true rfl) dX1_put_27 (fun H locs hP hD hS => ?_)
    have hP : va_P D vwCl [(q 1, .inr (1, [.ref (q 10), .ref (q 11), .int (nI (a.1 4)), .int (nI (a.1 0)), .int (nI (a.1 1)), .int (nI (a.1 2)), .int (nI (a.1 3)), .int (nI (a.1 5)), .int (nI ((a.1 6) + 1))])), (q 10, .inl (cI, 32, .inl (a.2 0))), (q 11, .inl (cI, 32, .inl (a.2 1)))] H := hP
    have hD : va_D A [(q 1, .inr (1, [.ref (q 10), .ref (q 11), .int (nI (a.1 4)), .int (nI (a.1 0)), .int (nI (a.1 1)), .int (nI (a.1 2)), .int (nI (a.1 3)), .int (nI (a.1 5)), .int (nI ((a.1 6) + 1))])), (q 10, .inl (cI, 32, .inl (a.2 0))), (q 11, .inl (cI, 32, .inl (a.2 1)))] := hD
    refine lv_iconst (v := nI 0) hx hb dX1_put_30 (by decide) ?_
    exact k_iret (v := nI 0) hx hb hr hlk (by decide) () ((if_neg (Nat.not_lt.mpr c_8)).symm) (by rw [a_come_f (Nat.not_lt.mpr c_8)]; exact hP) (by rw [a_come_f (Nat.not_lt.mpr c_8)]; exact hD) hS dX1_put_31
  · -- c_8 not taken
    refine lv_aload_n hx hb dX1_put_11 rfl (lv_at hl 0 rfl) ?_
    refine va_get (D := D) (ci := 1) (v := .int (nI (a.1 4))) (C := RX1) (T := TX1) (N := 9) hx hb hts hinX1 hown hK hP 0 rfl rfl 2 (by decide) (hts _ (List.mem_of_getElem? (i := 1) rfl)) (fun _ h9 => h9) rfl dX1_put_12 ?_
    refine lv_bipush (v := nI 32) hx hb dX1_put_15 (by decide) ?_
    refine k_icmp_lt (tgt := 32) hx hb (by omega) (by omega) dX1_put_17 (by decide) (fun c_17 => ?_) (fun c_17 => absurd c_17 (by omega))
    refine lv_aload_n hx hb dX1_put_32 rfl (lv_at hl 0 rfl) ?_
    refine va_get (D := D) (ci := 1) (v := .ref (q 10)) (C := RX1) (T := TX1) (N := 9) hx hb hts hinX1 hown hK hP 0 rfl rfl 0 (by decide) (hts _ (List.mem_of_getElem? (i := 4) rfl)) (fun _ h9 => h9) rfl dX1_put_33 ?_
    refine lv_aload_n hx hb dX1_put_36 rfl (lv_at hl 0 rfl) ?_
    refine va_get (D := D) (ci := 1) (v := .int (nI (a.1 4))) (C := RX1) (T := TX1) (N := 9) hx hb hts hinX1 hown hK hP 0 rfl rfl 2 (by decide) (hts _ (List.mem_of_getElem? (i := 1) rfl)) (fun _ h9 => h9) rfl dX1_put_37 ?_
    refine lv_iload_n hx hb dX1_put_40 rfl (lv_at hl 1 rfl) ?_
    refine k_iast hx hb hK hP hD hS 1 0 rfl rfl (by omega) (Nat.le_of_ble_eq_true rfl) dX1_put_41 (fun H locs hP hD hS => ?_)
    have hP : va_P D vwCl [(q 1, .inr (1, [.ref (q 10), .ref (q 11), .int (nI (a.1 4)), .int (nI (a.1 0)), .int (nI (a.1 1)), .int (nI (a.1 2)), .int (nI (a.1 3)), .int (nI (a.1 5)), .int (nI (a.1 6))])), (q 10, .inl (cI, 32, .inl (upd (a.2 0) (a.1 4) (x)))), (q 11, .inl (cI, 32, .inl (a.2 1)))] H := hP
    have hD : va_D A [(q 1, .inr (1, [.ref (q 10), .ref (q 11), .int (nI (a.1 4)), .int (nI (a.1 0)), .int (nI (a.1 1)), .int (nI (a.1 2)), .int (nI (a.1 3)), .int (nI (a.1 5)), .int (nI (a.1 6))])), (q 10, .inl (cI, 32, .inl (upd (a.2 0) (a.1 4) (x)))), (q 11, .inl (cI, 32, .inl (a.2 1)))] := hD
    refine lv_aload_n hx hb dX1_put_42 rfl (lv_at hl 0 rfl) ?_
    refine va_get (D := D) (ci := 1) (v := .ref (q 11)) (C := RX1) (T := TX1) (N := 9) hx hb hts hinX1 hown hK hP 0 rfl rfl 1 (by decide) (hts _ (List.mem_of_getElem? (i := 5) rfl)) (fun _ h9 => h9) rfl dX1_put_43 ?_
    refine lv_aload_n hx hb dX1_put_46 rfl (lv_at hl 0 rfl) ?_
    refine va_get (D := D) (ci := 1) (v := .int (nI (a.1 4))) (C := RX1) (T := TX1) (N := 9) hx hb hts hinX1 hown hK hP 0 rfl rfl 2 (by decide) (hts _ (List.mem_of_getElem? (i := 1) rfl)) (fun _ h9 => h9) rfl dX1_put_47 ?_
    refine lv_iload_n hx hb dX1_put_50 rfl (lv_at hl 2 rfl) ?_
    refine k_iast hx hb hK hP hD hS 2 0 rfl rfl (by omega) (Nat.le_of_ble_eq_true rfl) dX1_put_51 (fun H locs hP hD hS => ?_)
    have hP : va_P D vwCl [(q 1, .inr (1, [.ref (q 10), .ref (q 11), .int (nI (a.1 4)), .int (nI (a.1 0)), .int (nI (a.1 1)), .int (nI (a.1 2)), .int (nI (a.1 3)), .int (nI (a.1 5)), .int (nI (a.1 6))])), (q 10, .inl (cI, 32, .inl (upd (a.2 0) (a.1 4) (x)))), (q 11, .inl (cI, 32, .inl (upd (a.2 1) (a.1 4) (nI (a.1 7)))))] H := hP
    have hD : va_D A [(q 1, .inr (1, [.ref (q 10), .ref (q 11), .int (nI (a.1 4)), .int (nI (a.1 0)), .int (nI (a.1 1)), .int (nI (a.1 2)), .int (nI (a.1 3)), .int (nI (a.1 5)), .int (nI (a.1 6))])), (q 10, .inl (cI, 32, .inl (upd (a.2 0) (a.1 4) (x)))), (q 11, .inl (cI, 32, .inl (upd (a.2 1) (a.1 4) (nI (a.1 7)))))] := hD
    refine lv_aload_n hx hb dX1_put_52 rfl (lv_at hl 0 rfl) ?_
    refine lv_dup hx hb dX1_put_53 rfl ?_
    refine va_get (D := D) (ci := 1) (v := .int (nI (a.1 4))) (C := RX1) (T := TX1) (N := 9) hx hb hts hinX1 hown hK hP 0 rfl rfl 2 (by decide) (hts _ (List.mem_of_getElem? (i := 1) rfl)) (fun _ h9 => h9) rfl dX1_put_54 ?_
    refine lv_iconst (v := nI 1) hx hb dX1_put_57 (by decide) ?_
    refine k_iadd hx hb dX1_put_58 ?_
    refine va_put (D := D) (ci := 1) (v := .int (nI ((a.1 4) + 1))) (ty := .int) (C := RX1) (T := TX1) (N := 9) hx hb hts hinX1 tyX1 tyX1_ok nmX1 hown hK hP hD hS 0 rfl rfl 2 (by decide) (hts _ (List.mem_of_getElem? (i := 1) rfl)) (fun _ h9 => h9) rfl (by decide +kernel) rfl rfl (Nat.le_of_ble_eq_true rfl) dX1_put_59 (fun H locs hP hD hS => ?_)
    have hP : va_P D vwCl [(q 1, .inr (1, [.ref (q 10), .ref (q 11), .int (nI ((a.1 4) + 1)), .int (nI (a.1 0)), .int (nI (a.1 1)), .int (nI (a.1 2)), .int (nI (a.1 3)), .int (nI (a.1 5)), .int (nI (a.1 6))])), (q 10, .inl (cI, 32, .inl (upd (a.2 0) (a.1 4) (x)))), (q 11, .inl (cI, 32, .inl (upd (a.2 1) (a.1 4) (nI (a.1 7)))))] H := hP
    have hD : va_D A [(q 1, .inr (1, [.ref (q 10), .ref (q 11), .int (nI ((a.1 4) + 1)), .int (nI (a.1 0)), .int (nI (a.1 1)), .int (nI (a.1 2)), .int (nI (a.1 3)), .int (nI (a.1 5)), .int (nI (a.1 6))])), (q 10, .inl (cI, 32, .inl (upd (a.2 0) (a.1 4) (x)))), (q 11, .inl (cI, 32, .inl (upd (a.2 1) (a.1 4) (nI (a.1 7)))))] := hD
    refine lv_iconst (v := nI 1) hx hb dX1_put_62 (by decide) ?_
    exact k_iret (v := nI 1) hx hb hr hlk (by decide) () ((if_pos c_8).symm) (by rw [a_come_t c_8]; exact hP) (by rw [a_come_t c_8]; exact hD) hS dX1_put_63
set_option maxHeartbeats 4000000 in
set_option maxRecDepth 100000 in
theorem c_X1_loseAll (l : Launch) (D : va_G) (cI cZ : ClassId) (q : Nat → Nat) (a : AS) : kMi l yX1_loseAll wsX1_loseAll 0 0 D (TY cI cZ) [.ref (q 1)] [(q 1, .inr (1, [.ref (q 10), .ref (q 11), .int (nI (a.1 4)), .int (nI (a.1 0)), .int (nI (a.1 1)), .int (nI (a.1 2)), .int (nI (a.1 3)), .int (nI (a.1 5)), .int (nI (a.1 6))])), (q 10, .inl (cI, 32, .inl (a.2 0))), (q 11, .inl (cI, 32, .inl (a.2 1)))] (fun (r : Int32) (_ : Unit) => r = nI (a.1 4)) (fun (_ : Unit) => RWa cI q (a_reset a)) := by
  intro sz
  refine k_in (Qc := fun A => va_Qi (fun (r : Int32) (_ : Unit) => r = nI (a.1 4)) (kB D A (fun (_ : Unit) => RWa cI q (a_reset a))) A) (cc := cX1_loseAll) (maxL := 2) (ret := (some .int)) (by decide) rfl (Nat.le_of_ble_eq_true rfl) ?_
  intro p e s m below meth c A ls hfix hr hlk hN hP hK hD hA hS hl
  have hfix : CallFix p m c cX1_loseAll 2 s [.ref (q 1)].toArray wsX1_loseAll RX1 := hfix
  have hl : lv_has ls 2 [(0, .ref (q 1))] := hl
  obtain ⟨hx, hb, hml, hown, hts⟩ := id hfix
  have hinX1 : ∀ w ∈ wsX10, w ∈ wsX1_loseAll := fun _ h => List.mem_cons_of_mem _ (List.mem_append_right _ h)
  have hP : va_P D vwCl [(q 1, .inr (1, [.ref (q 10), .ref (q 11), .int (nI (a.1 4)), .int (nI (a.1 0)), .int (nI (a.1 1)), .int (nI (a.1 2)), .int (nI (a.1 3)), .int (nI (a.1 5)), .int (nI (a.1 6))])), (q 10, .inl (cI, 32, .inl (a.2 0))), (q 11, .inl (cI, 32, .inl (a.2 1)))] s.heap := hP
  have hD : va_D A [(q 1, .inr (1, [.ref (q 10), .ref (q 11), .int (nI (a.1 4)), .int (nI (a.1 0)), .int (nI (a.1 1)), .int (nI (a.1 2)), .int (nI (a.1 3)), .int (nI (a.1 5)), .int (nI (a.1 6))])), (q 10, .inl (cI, 32, .inl (a.2 0))), (q 11, .inl (cI, 32, .inl (a.2 1)))] := hD
  have hS : ∃ (H : Heap) (locs : List Loc), H = s.heap ∧ locs = [] ∧ va_S A s.heap H locs := ⟨_, _, rfl, rfl, hS⟩
  obtain ⟨H, locs, hH, hlocs, hS⟩ := hS
  rw [← hH] at hP
  suffices hW9 : W p l e ({ frames := 0, cells := 0, slots := 0, locals := 0 } : Room) s m [.ref (q 1)].toArray below meth c H locs 0 0 (MQ below (va_Qi (fun (r : Int32) (_ : Unit) => r = nI (a.1 4)) (kB D A (fun (_ : Unit) => RWa cI q (a_reset a))) A) [.ref (q 1)].toArray s 0 0 A) (F0 m 0 ls []) by rw [hH, hlocs] at hW9; exact hW9
  clear hH hlocs
  refine lv_aload_n hx hb dX1_loseAll_0 rfl (lv_at hl 0 rfl) ?_
  refine va_get (D := D) (ci := 1) (v := .int (nI (a.1 4))) (C := RX1) (T := TX1) (N := 9) hx hb hts hinX1 hown hK hP 0 rfl rfl 2 (by decide) (hts _ (List.mem_of_getElem? (i := 1) rfl)) (fun _ h9 => h9) rfl dX1_loseAll_1 ?_
  refine lv_istore_n (lv' := [(1, .int (nI (a.1 4))), (0, .ref (q 1))]) hx hb dX1_loseAll_4 rfl hl (by decide) rfl (fun ls hl => ?_)
  refine lv_aload_n hx hb dX1_loseAll_5 rfl (lv_at hl 1 rfl) ?_
  refine lv_dup hx hb dX1_loseAll_6 rfl ?_
  refine va_get (D := D) (ci := 1) (v := .int (nI (a.1 6))) (C := RX1) (T := TX1) (N := 9) hx hb hts hinX1 hown hK hP 0 rfl rfl 8 (by decide) (hts _ (List.mem_of_getElem? (i := 2) rfl)) (fun _ h9 => h9) rfl dX1_loseAll_7 ?_
  refine lv_iload_n hx hb dX1_loseAll_10 rfl (lv_at hl 0 rfl) ?_
  refine k_iadd hx hb dX1_loseAll_11 ?_
  refine va_put (D := D) (ci := 1) (v := .int (nI ((a.1 6) + (a.1 4)))) (ty := .int) (C := RX1) (T := TX1) (N := 9) hx hb hts hinX1 tyX1 tyX1_ok nmX1 hown hK hP hD hS 0 rfl rfl 8 (by decide) (hts _ (List.mem_of_getElem? (i := 2) rfl)) (fun _ h9 => h9) rfl (by decide +kernel) rfl rfl (Nat.le_of_ble_eq_true rfl) dX1_loseAll_12 (fun H locs hP hD hS => ?_)
  have hP : va_P D vwCl [(q 1, .inr (1, [.ref (q 10), .ref (q 11), .int (nI (a.1 4)), .int (nI (a.1 0)), .int (nI (a.1 1)), .int (nI (a.1 2)), .int (nI (a.1 3)), .int (nI (a.1 5)), .int (nI ((a.1 6) + (a.1 4)))])), (q 10, .inl (cI, 32, .inl (a.2 0))), (q 11, .inl (cI, 32, .inl (a.2 1)))] H := hP
  have hD : va_D A [(q 1, .inr (1, [.ref (q 10), .ref (q 11), .int (nI (a.1 4)), .int (nI (a.1 0)), .int (nI (a.1 1)), .int (nI (a.1 2)), .int (nI (a.1 3)), .int (nI (a.1 5)), .int (nI ((a.1 6) + (a.1 4)))])), (q 10, .inl (cI, 32, .inl (a.2 0))), (q 11, .inl (cI, 32, .inl (a.2 1)))] := hD
  refine lv_aload_n hx hb dX1_loseAll_15 rfl (lv_at hl 1 rfl) ?_
  refine lv_iconst (v := nI 0) hx hb dX1_loseAll_16 (by decide) ?_
  refine va_put (D := D) (ci := 1) (v := .int (nI 0)) (ty := .int) (C := RX1) (T := TX1) (N := 9) hx hb hts hinX1 tyX1 tyX1_ok nmX1 hown hK hP hD hS 0 rfl rfl 2 (by decide) (hts _ (List.mem_of_getElem? (i := 1) rfl)) (fun _ h9 => h9) rfl (by decide +kernel) rfl rfl (Nat.le_of_ble_eq_true rfl) dX1_loseAll_17 (fun H locs hP hD hS => ?_)
  have hP : va_P D vwCl [(q 1, .inr (1, [.ref (q 10), .ref (q 11), .int (nI 0), .int (nI (a.1 0)), .int (nI (a.1 1)), .int (nI (a.1 2)), .int (nI (a.1 3)), .int (nI (a.1 5)), .int (nI ((a.1 6) + (a.1 4)))])), (q 10, .inl (cI, 32, .inl (a.2 0))), (q 11, .inl (cI, 32, .inl (a.2 1)))] H := hP
  have hD : va_D A [(q 1, .inr (1, [.ref (q 10), .ref (q 11), .int (nI 0), .int (nI (a.1 0)), .int (nI (a.1 1)), .int (nI (a.1 2)), .int (nI (a.1 3)), .int (nI (a.1 5)), .int (nI ((a.1 6) + (a.1 4)))])), (q 10, .inl (cI, 32, .inl (a.2 0))), (q 11, .inl (cI, 32, .inl (a.2 1)))] := hD
  refine lv_aload_n hx hb dX1_loseAll_20 rfl (lv_at hl 1 rfl) ?_
  refine lv_iconst (v := nI 0) hx hb dX1_loseAll_21 (by decide) ?_
  refine va_put (D := D) (ci := 1) (v := .int (nI 0)) (ty := .boolean) (C := RX1) (T := TX1) (N := 9) hx hb hts hinX1 tyX1 tyX1_ok nmX1 hown hK hP hD hS 0 rfl rfl 7 (by decide) (hts _ (List.mem_of_getElem? (i := 3) rfl)) (fun _ h9 => h9) rfl (by decide +kernel) (by decide) rfl (Nat.le_of_ble_eq_true rfl) dX1_loseAll_22 (fun H locs hP hD hS => ?_)
  have hP : va_P D vwCl [(q 1, .inr (1, [.ref (q 10), .ref (q 11), .int (nI 0), .int (nI (a.1 0)), .int (nI (a.1 1)), .int (nI (a.1 2)), .int (nI (a.1 3)), .int (nI 0), .int (nI ((a.1 6) + (a.1 4)))])), (q 10, .inl (cI, 32, .inl (a.2 0))), (q 11, .inl (cI, 32, .inl (a.2 1)))] H := hP
  have hD : va_D A [(q 1, .inr (1, [.ref (q 10), .ref (q 11), .int (nI 0), .int (nI (a.1 0)), .int (nI (a.1 1)), .int (nI (a.1 2)), .int (nI (a.1 3)), .int (nI 0), .int (nI ((a.1 6) + (a.1 4)))])), (q 10, .inl (cI, 32, .inl (a.2 0))), (q 11, .inl (cI, 32, .inl (a.2 1)))] := hD
  refine lv_iload_n hx hb dX1_loseAll_25 rfl (lv_at hl 0 rfl) ?_
  exact k_iret (v := nI (a.1 4)) hx hb hr hlk rfl () rfl hP hD hS dX1_loseAll_26
set_option maxHeartbeats 4000000 in
set_option maxRecDepth 100000 in
theorem c_X1_isInterruptDue (l : Launch) (D : va_G) (cI cZ : ClassId) (q : Nat → Nat) (a : AS) (hI : AI a) : kMi l yX1_isInterruptDue wsX1_isInterruptDue 0 0 D (TY cI cZ) [.ref (q 1), .int (nI (a.1 7))] [(q 1, .inr (1, [.ref (q 10), .ref (q 11), .int (nI (a.1 4)), .int (nI (a.1 0)), .int (nI (a.1 1)), .int (nI (a.1 2)), .int (nI (a.1 3)), .int (nI (a.1 5)), .int (nI (a.1 6))])), (q 10, .inl (cI, 32, .inl (a.2 0))), (q 11, .inl (cI, 32, .inl (a.2 1)))] (fun (r : Int32) (_ : Unit) => r = (if a_due a then nI 1 else nI 0)) (fun (_ : Unit) => RWa cI q a) := by
  obtain ⟨⟨i0, i4, i5, i7, i9, i10, i11, i12⟩, ⟨i1, i2, i3⟩, ⟨i8, i13, i14⟩, iQ, iH0, iH1, iW0, iW1, iN⟩ := id hI
  intro sz
  refine k_in (Qc := fun A => va_Qi (fun (r : Int32) (_ : Unit) => r = (if a_due a then nI 1 else nI 0)) (kB D A (fun (_ : Unit) => RWa cI q a)) A) (cc := cX1_isInterruptDue) (maxL := 2) (ret := (some .boolean)) (by decide) rfl (Nat.le_of_ble_eq_true rfl) ?_
  intro p e s m below meth c A ls hfix hr hlk hN hP hK hD hA hS hl
  have hfix : CallFix p m c cX1_isInterruptDue 2 s [.ref (q 1), .int (nI (a.1 7))].toArray wsX1_isInterruptDue RX1 := hfix
  have hl : lv_has ls 2 [(0, .ref (q 1)), (1, .int (nI (a.1 7)))] := hl
  obtain ⟨hx, hb, hml, hown, hts⟩ := id hfix
  have hinX1 : ∀ w ∈ wsX10, w ∈ wsX1_isInterruptDue := fun _ h => List.mem_cons_of_mem _ (List.mem_append_right _ h)
  have hP : va_P D vwCl [(q 1, .inr (1, [.ref (q 10), .ref (q 11), .int (nI (a.1 4)), .int (nI (a.1 0)), .int (nI (a.1 1)), .int (nI (a.1 2)), .int (nI (a.1 3)), .int (nI (a.1 5)), .int (nI (a.1 6))])), (q 10, .inl (cI, 32, .inl (a.2 0))), (q 11, .inl (cI, 32, .inl (a.2 1)))] s.heap := hP
  have hD : va_D A [(q 1, .inr (1, [.ref (q 10), .ref (q 11), .int (nI (a.1 4)), .int (nI (a.1 0)), .int (nI (a.1 1)), .int (nI (a.1 2)), .int (nI (a.1 3)), .int (nI (a.1 5)), .int (nI (a.1 6))])), (q 10, .inl (cI, 32, .inl (a.2 0))), (q 11, .inl (cI, 32, .inl (a.2 1)))] := hD
  have hS : ∃ (H : Heap) (locs : List Loc), H = s.heap ∧ locs = [] ∧ va_S A s.heap H locs := ⟨_, _, rfl, rfl, hS⟩
  obtain ⟨H, locs, hH, hlocs, hS⟩ := hS
  rw [← hH] at hP
  suffices hW9 : W p l e ({ frames := 0, cells := 0, slots := 0, locals := 0 } : Room) s m [.ref (q 1), .int (nI (a.1 7))].toArray below meth c H locs 0 0 (MQ below (va_Qi (fun (r : Int32) (_ : Unit) => r = (if a_due a then nI 1 else nI 0)) (kB D A (fun (_ : Unit) => RWa cI q a)) A) [.ref (q 1), .int (nI (a.1 7))].toArray s 0 0 A) (F0 m 0 ls []) by rw [hH, hlocs] at hW9; exact hW9
  clear hH hlocs
  refine lv_aload_n hx hb dX1_isInterruptDue_0 rfl (lv_at hl 0 rfl) ?_
  refine va_get (D := D) (ci := 1) (v := .int (nI (a.1 4))) (C := RX1) (T := TX1) (N := 9) hx hb hts hinX1 hown hK hP 0 rfl rfl 2 (by decide) (hts _ (List.mem_of_getElem? (i := 1) rfl)) (fun _ h9 => h9) rfl dX1_isInterruptDue_1 ?_
  refine lv_aload_n hx hb dX1_isInterruptDue_4 rfl (lv_at hl 0 rfl) ?_
  refine va_get (D := D) (ci := 1) (v := .int (nI (a.1 1))) (C := RX1) (T := TX1) (N := 9) hx hb hts hinX1 hown hK hP 0 rfl rfl 4 (by decide) (hts _ (List.mem_of_getElem? (i := 2) rfl)) (fun _ h9 => h9) rfl dX1_isInterruptDue_5 ?_
  refine k_icmp_ge (tgt := 33) hx hb (by omega) (by omega) dX1_isInterruptDue_8 (by decide) (fun c_8 => ?_) (fun c_8 => ?_)
  · -- c_8 taken
    refine lv_iconst (v := nI 1) hx hb dX1_isInterruptDue_33 (by decide) ?_
    refine lv_goto (tgt := 38) hx hb dX1_isInterruptDue_34 (by decide) ?_
    exact k_iret (v := nI 1) hx hb hr hlk (by decide) () ((if_pos (Or.inl c_8)).symm) hP hD hS dX1_isInterruptDue_38
  · -- c_8 not taken
    refine lv_aload_n hx hb dX1_isInterruptDue_11 rfl (lv_at hl 0 rfl) ?_
    refine va_get (D := D) (ci := 1) (v := .int (nI (a.1 4))) (C := RX1) (T := TX1) (N := 9) hx hb hts hinX1 hown hK hP 0 rfl rfl 2 (by decide) (hts _ (List.mem_of_getElem? (i := 1) rfl)) (fun _ h9 => h9) rfl dX1_isInterruptDue_12 ?_
    refine k_if_le (tgt := 37) hx hb (by omega) dX1_isInterruptDue_15 (by decide) (fun c_15 => ?_) (fun c_15 => ?_)
    · -- c_15 taken
      refine lv_iconst (v := nI 0) hx hb dX1_isInterruptDue_37 (by decide) ?_
      exact k_iret (v := nI 0) hx hb hr hlk (by decide) () ((if_neg (fun h => h.elim (fun h => by omega) (fun h => by have := h.1; omega))).symm) hP hD hS dX1_isInterruptDue_38
    · -- c_15 not taken
      refine lv_iload_n hx hb dX1_isInterruptDue_18 rfl (lv_at hl 1 rfl) ?_
      refine lv_aload_n hx hb dX1_isInterruptDue_19 rfl (lv_at hl 0 rfl) ?_
      refine va_get (D := D) (ci := 1) (v := .ref (q 11)) (C := RX1) (T := TX1) (N := 9) hx hb hts hinX1 hown hK hP 0 rfl rfl 1 (by decide) (hts _ (List.mem_of_getElem? (i := 3) rfl)) (fun _ h9 => h9) rfl dX1_isInterruptDue_20 ?_
      refine lv_iconst (v := nI 0) hx hb dX1_isInterruptDue_23 (by decide) ?_
      refine k_iald hx hb hK hP 2 0 rfl rfl (by omega) (Nat.le_of_ble_eq_true rfl) dX1_isInterruptDue_24 ?_
      refine lv_isub hx hb dX1_isInterruptDue_25 ?_
      refine lv_aload_n hx hb dX1_isInterruptDue_26 rfl (lv_at hl 0 rfl) ?_
      refine va_get (D := D) (ci := 1) (v := .int (nI (a.1 2))) (C := RX1) (T := TX1) (N := 9) hx hb hts hinX1 hown hK hP 0 rfl rfl 5 (by decide) (hts _ (List.mem_of_getElem? (i := 4) rfl)) (fun _ h9 => h9) rfl dX1_isInterruptDue_27 ?_
      refine lv_icmp_lt (tgt := 37) hx hb dX1_isInterruptDue_30 (by decide) (fun c_30 => ?_) (fun c_30 => ?_)
      · -- c_30 taken
        refine lv_iconst (v := nI 0) hx hb dX1_isInterruptDue_37 (by decide) ?_
        exact k_iret (v := nI 0) hx hb hr hlk (by decide) () ((if_neg (fun h => h.elim (fun h => by omega) (fun h => absurd h.2 (Int32.not_le.mpr c_30)))).symm) hP hD hS dX1_isInterruptDue_38
      · -- c_30 not taken
        refine lv_iconst (v := nI 1) hx hb dX1_isInterruptDue_33 (by decide) ?_
        refine lv_goto (tgt := 38) hx hb dX1_isInterruptDue_34 (by decide) ?_
        exact k_iret (v := nI 1) hx hb hr hlk (by decide) () ((if_pos (Or.inr ⟨c_15, Int32.not_lt.mp c_30⟩)).symm) hP hD hS dX1_isInterruptDue_38
set_option maxHeartbeats 4000000 in
set_option maxRecDepth 100000 in
theorem c_X1_chooseMany (l : Launch) (D : va_G) (cI cZ : ClassId) (q : Nat → Nat) (a : AS) (hI : AI a) : kMi l yX1_chooseMany wsX1_chooseMany 1 24 D (TY cI cZ) [.ref (q 1), .int (nI (a.1 7))] [(q 1, .inr (1, [.ref (q 10), .ref (q 11), .int (nI (a.1 4)), .int (nI (a.1 0)), .int (nI (a.1 1)), .int (nI (a.1 2)), .int (nI (a.1 3)), .int (nI (a.1 5)), .int (nI (a.1 6))])), (q 10, .inl (cI, 32, .inl (a.2 0))), (q 11, .inl (cI, 32, .inl (a.2 1)))] (fun (r : Int32) (_ : Unit) => r = nI (a_many a)) (fun (_ : Unit) => RWa cI q (sN a 5 (a_polN a))) := by
  obtain ⟨⟨i0, i4, i5, i7, i9, i10, i11, i12⟩, ⟨i1, i2, i3⟩, ⟨i8, i13, i14⟩, iQ, iH0, iH1, iW0, iW1, iN⟩ := id hI
  intro sz
  refine k_in (Qc := fun A => va_Qi (fun (r : Int32) (_ : Unit) => r = nI (a_many a)) (kB D A (fun (_ : Unit) => RWa cI q (sN a 5 (a_polN a)))) A) (cc := cX1_chooseMany) (maxL := 3) (ret := (some .int)) (by decide) rfl (Nat.le_of_ble_eq_true rfl) ?_
  intro p e s m below meth c A ls hfix hr hlk hN hP hK hD hA hS hl
  have hfix : CallFix p m c cX1_chooseMany 3 s [.ref (q 1), .int (nI (a.1 7))].toArray wsX1_chooseMany RX1 := hfix
  have hl : lv_has ls 3 [(0, .ref (q 1)), (1, .int (nI (a.1 7)))] := hl
  obtain ⟨hx, hb, hml, hown, hts⟩ := id hfix
  have hinX1 : ∀ w ∈ wsX10, w ∈ wsX1_chooseMany := fun _ h => List.mem_cons_of_mem _ (List.mem_append_right _ h)
  have hP : va_P D vwCl [(q 1, .inr (1, [.ref (q 10), .ref (q 11), .int (nI (a.1 4)), .int (nI (a.1 0)), .int (nI (a.1 1)), .int (nI (a.1 2)), .int (nI (a.1 3)), .int (nI (a.1 5)), .int (nI (a.1 6))])), (q 10, .inl (cI, 32, .inl (a.2 0))), (q 11, .inl (cI, 32, .inl (a.2 1)))] s.heap := hP
  have hD : va_D A [(q 1, .inr (1, [.ref (q 10), .ref (q 11), .int (nI (a.1 4)), .int (nI (a.1 0)), .int (nI (a.1 1)), .int (nI (a.1 2)), .int (nI (a.1 3)), .int (nI (a.1 5)), .int (nI (a.1 6))])), (q 10, .inl (cI, 32, .inl (a.2 0))), (q 11, .inl (cI, 32, .inl (a.2 1)))] := hD
  have hS : ∃ (H : Heap) (locs : List Loc), H = s.heap ∧ locs = [] ∧ va_S A s.heap H locs := ⟨_, _, rfl, rfl, hS⟩
  obtain ⟨H, locs, hH, hlocs, hS⟩ := hS
  rw [← hH] at hP
  suffices hW9 : W p l e ({ frames := 1, cells := 0, slots := 0, locals := 24 } : Room) s m [.ref (q 1), .int (nI (a.1 7))].toArray below meth c H locs 0 0 (MQ below (va_Qi (fun (r : Int32) (_ : Unit) => r = nI (a_many a)) (kB D A (fun (_ : Unit) => RWa cI q (sN a 5 (a_polN a)))) A) [.ref (q 1), .int (nI (a.1 7))].toArray s 0 0 A) (F0 m 0 ls []) by rw [hH, hlocs] at hW9; exact hW9
  clear hH hlocs
  refine lv_aload_n hx hb dX1_chooseMany_0 rfl (lv_at hl 0 rfl) ?_
  refine va_get (D := D) (ci := 1) (v := .int (nI (a.1 5))) (C := RX1) (T := TX1) (N := 9) hx hb hts hinX1 hown hK hP 0 rfl rfl 7 (by decide) (hts _ (List.mem_of_getElem? (i := 1) rfl)) (fun _ h9 => h9) rfl dX1_chooseMany_1 ?_
  refine k_if_eq (tgt := 32) hx hb (by omega) dX1_chooseMany_4 (by decide) (fun c_4 => ?_) (fun c_4 => ?_)
  · -- c_4 taken
    refine lv_aload_n hx hb dX1_chooseMany_32 rfl (lv_at hl 0 rfl) ?_
    refine lv_iload_n hx hb dX1_chooseMany_33 rfl (lv_at hl 1 rfl) ?_
    refine k_callVi (n := 1) (wr := []) (As := [.int (nI (a.1 7))]) (rest := []) hfix hN hK hP hD hS hA hl.1 (c_X1_isInterruptDue l D cI cZ q a hI) gX1_chooseMany_X1_isInterruptDue rfl (by decide +kernel) rfl ⟨Nat.le_of_ble_eq_true rfl, Nat.le_of_ble_eq_true rfl⟩ [0, 1, 2] [] rfl rfl (by decide) (by decide) (by decide) 0 rfl rfl rfl (Nat.le_of_ble_eq_true rfl) ⟨Nat.zero_le _, Nat.zero_le _⟩ dX1_chooseMany_34 (fun r_34 u H locs hw_34 hP hD hS => ?_)
    have hP : va_P D vwCl [(q 1, .inr (1, [.ref (q 10), .ref (q 11), .int (nI (a.1 4)), .int (nI (a.1 0)), .int (nI (a.1 1)), .int (nI (a.1 2)), .int (nI (a.1 3)), .int (nI (a.1 5)), .int (nI (a.1 6))])), (q 10, .inl (cI, 32, .inl (a.2 0))), (q 11, .inl (cI, 32, .inl (a.2 1)))] H := hP.sub [0, 1, 2] rfl
    have hD : va_D A [(q 1, .inr (1, [.ref (q 10), .ref (q 11), .int (nI (a.1 4)), .int (nI (a.1 0)), .int (nI (a.1 1)), .int (nI (a.1 2)), .int (nI (a.1 3)), .int (nI (a.1 5)), .int (nI (a.1 6))])), (q 10, .inl (cI, 32, .inl (a.2 0))), (q 11, .inl (cI, 32, .inl (a.2 1)))] := hD.sub [0, 1, 2] (by decide) rfl
    by_cases e_34 : a_due a
    · rw [if_pos e_34] at hw_34
      obtain rfl : r_34 = nI 1 := hw_34
      refine k_if_ne (tgt := 42) hx hb (by decide) dX1_chooseMany_37 (by decide) (fun _ => ?_) (fun q => absurd q (by decide))
      refine lv_aload_n hx hb dX1_chooseMany_42 rfl (lv_at hl 0 rfl) ?_
      refine lv_aload_n hx hb dX1_chooseMany_43 rfl (lv_at hl 0 rfl) ?_
      refine va_get (D := D) (ci := 1) (v := .int (nI (a.1 4))) (C := RX1) (T := TX1) (N := 9) hx hb hts hinX1 hown hK hP 0 rfl rfl 2 (by decide) (hts _ (List.mem_of_getElem? (i := 2) rfl)) (fun _ h9 => h9) rfl dX1_chooseMany_44 ?_
      refine lv_aload_n hx hb dX1_chooseMany_47 rfl (lv_at hl 0 rfl) ?_
      refine va_get (D := D) (ci := 1) (v := .int (nI (a.1 3))) (C := RX1) (T := TX1) (N := 9) hx hb hts hinX1 hown hK hP 0 rfl rfl 6 (by decide) (hts _ (List.mem_of_getElem? (i := 7) rfl)) (fun _ h9 => h9) rfl dX1_chooseMany_48 ?_
      refine k_icmp_lt (tgt := 58) hx hb (by omega) (by omega) dX1_chooseMany_51 (by decide) (fun c_51 => ?_) (fun c_51 => ?_)
      · -- c_51 taken
        refine lv_iconst (v := nI 0) hx hb dX1_chooseMany_58 (by decide) ?_
        refine va_put (D := D) (ci := 1) (v := .int (nI 0)) (ty := .boolean) (C := RX1) (T := TX1) (N := 9) hx hb hts hinX1 tyX1 tyX1_ok nmX1 hown hK hP hD hS 0 rfl rfl 7 (by decide) (hts _ (List.mem_of_getElem? (i := 1) rfl)) (fun _ h9 => h9) rfl (by decide +kernel) (by decide) rfl (Nat.le_of_ble_eq_true rfl) dX1_chooseMany_59 (fun H locs hP hD hS => ?_)
        have hP : va_P D vwCl [(q 1, .inr (1, [.ref (q 10), .ref (q 11), .int (nI (a.1 4)), .int (nI (a.1 0)), .int (nI (a.1 1)), .int (nI (a.1 2)), .int (nI (a.1 3)), .int (nI 0), .int (nI (a.1 6))])), (q 10, .inl (cI, 32, .inl (a.2 0))), (q 11, .inl (cI, 32, .inl (a.2 1)))] H := hP
        have hD : va_D A [(q 1, .inr (1, [.ref (q 10), .ref (q 11), .int (nI (a.1 4)), .int (nI (a.1 0)), .int (nI (a.1 1)), .int (nI (a.1 2)), .int (nI (a.1 3)), .int (nI 0), .int (nI (a.1 6))])), (q 10, .inl (cI, 32, .inl (a.2 0))), (q 11, .inl (cI, 32, .inl (a.2 1)))] := hD
        refine lv_aload_n hx hb dX1_chooseMany_62 rfl (lv_at hl 0 rfl) ?_
        refine va_get (D := D) (ci := 1) (v := .int (nI (a.1 4))) (C := RX1) (T := TX1) (N := 9) hx hb hts hinX1 hown hK hP 0 rfl rfl 2 (by decide) (hts _ (List.mem_of_getElem? (i := 2) rfl)) (fun _ h9 => h9) rfl dX1_chooseMany_63 ?_
        exact k_iret (v := nI (a.1 4)) hx hb hr hlk rfl () (by rw [a_many, if_pos c_4, if_pos e_34]) (by rw [show a_polN a = 0 from by rw [a_polN, if_pos c_4, if_pos e_34, if_neg (by omega)]]; exact hP) (by rw [show a_polN a = 0 from by rw [a_polN, if_pos c_4, if_pos e_34, if_neg (by omega)]]; exact hD) hS dX1_chooseMany_66
      · -- c_51 not taken
        refine lv_iconst (v := nI 1) hx hb dX1_chooseMany_54 (by decide) ?_
        refine lv_goto (tgt := 59) hx hb dX1_chooseMany_55 (by decide) ?_
        refine va_put (D := D) (ci := 1) (v := .int (nI 1)) (ty := .boolean) (C := RX1) (T := TX1) (N := 9) hx hb hts hinX1 tyX1 tyX1_ok nmX1 hown hK hP hD hS 0 rfl rfl 7 (by decide) (hts _ (List.mem_of_getElem? (i := 1) rfl)) (fun _ h9 => h9) rfl (by decide +kernel) (by decide) rfl (Nat.le_of_ble_eq_true rfl) dX1_chooseMany_59 (fun H locs hP hD hS => ?_)
        have hP : va_P D vwCl [(q 1, .inr (1, [.ref (q 10), .ref (q 11), .int (nI (a.1 4)), .int (nI (a.1 0)), .int (nI (a.1 1)), .int (nI (a.1 2)), .int (nI (a.1 3)), .int (nI 1), .int (nI (a.1 6))])), (q 10, .inl (cI, 32, .inl (a.2 0))), (q 11, .inl (cI, 32, .inl (a.2 1)))] H := hP
        have hD : va_D A [(q 1, .inr (1, [.ref (q 10), .ref (q 11), .int (nI (a.1 4)), .int (nI (a.1 0)), .int (nI (a.1 1)), .int (nI (a.1 2)), .int (nI (a.1 3)), .int (nI 1), .int (nI (a.1 6))])), (q 10, .inl (cI, 32, .inl (a.2 0))), (q 11, .inl (cI, 32, .inl (a.2 1)))] := hD
        refine lv_aload_n hx hb dX1_chooseMany_62 rfl (lv_at hl 0 rfl) ?_
        refine va_get (D := D) (ci := 1) (v := .int (nI (a.1 4))) (C := RX1) (T := TX1) (N := 9) hx hb hts hinX1 hown hK hP 0 rfl rfl 2 (by decide) (hts _ (List.mem_of_getElem? (i := 2) rfl)) (fun _ h9 => h9) rfl dX1_chooseMany_63 ?_
        exact k_iret (v := nI (a.1 4)) hx hb hr hlk rfl () (by rw [a_many, if_pos c_4, if_pos e_34]) (by rw [show a_polN a = 1 from by rw [a_polN, if_pos c_4, if_pos e_34, if_pos (by omega)]]; exact hP) (by rw [show a_polN a = 1 from by rw [a_polN, if_pos c_4, if_pos e_34, if_pos (by omega)]]; exact hD) hS dX1_chooseMany_66
    · rw [if_neg e_34] at hw_34
      obtain rfl : r_34 = nI 0 := hw_34
      refine k_if_ne (tgt := 42) hx hb (by decide) dX1_chooseMany_37 (by decide) (fun q => absurd q (by decide)) (fun _ => ?_)
      refine lv_iconst (v := nI 0) hx hb dX1_chooseMany_40 (by decide) ?_
      exact k_iret (v := nI 0) hx hb hr hlk rfl () (by rw [a_many, if_pos c_4, if_neg e_34]) (by rw [show a_polN a = a.1 5 from by rw [a_polN, if_pos c_4, if_neg e_34, c_4]]; exact hP) (by rw [show a_polN a = a.1 5 from by rw [a_polN, if_pos c_4, if_neg e_34, c_4]]; exact hD) hS dX1_chooseMany_41
  · -- c_4 not taken
    refine lv_aload_n hx hb dX1_chooseMany_7 rfl (lv_at hl 0 rfl) ?_
    refine va_get (D := D) (ci := 1) (v := .int (nI (a.1 4))) (C := RX1) (T := TX1) (N := 9) hx hb hts hinX1 hown hK hP 0 rfl rfl 2 (by decide) (hts _ (List.mem_of_getElem? (i := 2) rfl)) (fun _ h9 => h9) rfl dX1_chooseMany_8 ?_
    refine lv_bipush (v := nI 6) hx hb dX1_chooseMany_11 (by decide) ?_
    refine va_mmin hx hb (hml.trans hl.1.symm) hown (hts _ (List.mem_of_getElem? (i := 3) rfl)) (hts _ (List.mem_of_getElem? (i := 4) rfl)) (hts _ (List.mem_of_getElem? (i := 5) rfl)) (hts _ (List.mem_of_getElem? (i := 6) rfl)) (Nat.le_of_ble_eq_true rfl) (Nat.le_of_ble_eq_true rfl) (Nat.zero_le _) (Nat.zero_le _) dX1_chooseMany_13 ?_
    rw [show (if nI 6 < nI (a.1 4) then nI 6 else nI (a.1 4)) = nI (min (a.1 4) 6) from k_min (by omega) (by omega)]
    refine lv_istore_n (lv' := [(2, .int (nI (min (a.1 4) 6))), (0, .ref (q 1)), (1, .int (nI (a.1 7)))]) hx hb dX1_chooseMany_16 rfl hl (by decide) rfl (fun ls hl => ?_)
    refine lv_aload_n hx hb dX1_chooseMany_17 rfl (lv_at hl 1 rfl) ?_
    refine lv_iload_n hx hb dX1_chooseMany_18 rfl (lv_at hl 0 rfl) ?_
    refine k_if_le (tgt := 26) hx hb (by omega) dX1_chooseMany_19 (by decide) (fun c_19 => ?_) (fun c_19 => ?_)
    · -- c_19 taken
      refine lv_iconst (v := nI 0) hx hb dX1_chooseMany_26 (by decide) ?_
      refine va_put (D := D) (ci := 1) (v := .int (nI 0)) (ty := .boolean) (C := RX1) (T := TX1) (N := 9) hx hb hts hinX1 tyX1 tyX1_ok nmX1 hown hK hP hD hS 0 rfl rfl 7 (by decide) (hts _ (List.mem_of_getElem? (i := 1) rfl)) (fun _ h9 => h9) rfl (by decide +kernel) (by decide) rfl (Nat.le_of_ble_eq_true rfl) dX1_chooseMany_27 (fun H locs hP hD hS => ?_)
      have hP : va_P D vwCl [(q 1, .inr (1, [.ref (q 10), .ref (q 11), .int (nI (a.1 4)), .int (nI (a.1 0)), .int (nI (a.1 1)), .int (nI (a.1 2)), .int (nI (a.1 3)), .int (nI 0), .int (nI (a.1 6))])), (q 10, .inl (cI, 32, .inl (a.2 0))), (q 11, .inl (cI, 32, .inl (a.2 1)))] H := hP
      have hD : va_D A [(q 1, .inr (1, [.ref (q 10), .ref (q 11), .int (nI (a.1 4)), .int (nI (a.1 0)), .int (nI (a.1 1)), .int (nI (a.1 2)), .int (nI (a.1 3)), .int (nI 0), .int (nI (a.1 6))])), (q 10, .inl (cI, 32, .inl (a.2 0))), (q 11, .inl (cI, 32, .inl (a.2 1)))] := hD
      refine lv_iload_n hx hb dX1_chooseMany_30 rfl (lv_at hl 0 rfl) ?_
      exact k_iret (v := nI (min (a.1 4) 6)) hx hb hr hlk rfl () (by rw [a_many, if_neg c_4]) (by rw [show a_polN a = 0 from by rw [a_polN, if_neg c_4, if_neg (by omega)]]; exact hP) (by rw [show a_polN a = 0 from by rw [a_polN, if_neg c_4, if_neg (by omega)]]; exact hD) hS dX1_chooseMany_31
    · -- c_19 not taken
      refine lv_iconst (v := nI 1) hx hb dX1_chooseMany_22 (by decide) ?_
      refine lv_goto (tgt := 27) hx hb dX1_chooseMany_23 (by decide) ?_
      refine va_put (D := D) (ci := 1) (v := .int (nI 1)) (ty := .boolean) (C := RX1) (T := TX1) (N := 9) hx hb hts hinX1 tyX1 tyX1_ok nmX1 hown hK hP hD hS 0 rfl rfl 7 (by decide) (hts _ (List.mem_of_getElem? (i := 1) rfl)) (fun _ h9 => h9) rfl (by decide +kernel) (by decide) rfl (Nat.le_of_ble_eq_true rfl) dX1_chooseMany_27 (fun H locs hP hD hS => ?_)
      have hP : va_P D vwCl [(q 1, .inr (1, [.ref (q 10), .ref (q 11), .int (nI (a.1 4)), .int (nI (a.1 0)), .int (nI (a.1 1)), .int (nI (a.1 2)), .int (nI (a.1 3)), .int (nI 1), .int (nI (a.1 6))])), (q 10, .inl (cI, 32, .inl (a.2 0))), (q 11, .inl (cI, 32, .inl (a.2 1)))] H := hP
      have hD : va_D A [(q 1, .inr (1, [.ref (q 10), .ref (q 11), .int (nI (a.1 4)), .int (nI (a.1 0)), .int (nI (a.1 1)), .int (nI (a.1 2)), .int (nI (a.1 3)), .int (nI 1), .int (nI (a.1 6))])), (q 10, .inl (cI, 32, .inl (a.2 0))), (q 11, .inl (cI, 32, .inl (a.2 1)))] := hD
      refine lv_iload_n hx hb dX1_chooseMany_30 rfl (lv_at hl 0 rfl) ?_
      exact k_iret (v := nI (min (a.1 4) 6)) hx hb hr hlk rfl () (by rw [a_many, if_neg c_4]) (by rw [show a_polN a = 1 from by rw [a_polN, if_neg c_4, if_pos (by omega)]]; exact hP) (by rw [show a_polN a = 1 from by rw [a_polN, if_neg c_4, if_pos (by omega)]]; exact hD) hS dX1_chooseMany_31
set_option maxHeartbeats 4000000 in
set_option maxRecDepth 100000 in
theorem c_X1_packetAt (l : Launch) (D : va_G) (cI cZ : ClassId) (q : Nat → Nat) (a : AS) (i4 : a.1 4 ≤ 32) (k : Nat) (hk : k < a.1 4) (hq : vp_in (a.2 0 k) 300) : kMi l yX1_packetAt wsX1_packetAt 0 0 D (TY cI cZ) [.ref (q 1), .int (nI k)] [(q 1, .inr (1, [.ref (q 10), .ref (q 11), .int (nI (a.1 4)), .int (nI (a.1 0)), .int (nI (a.1 1)), .int (nI (a.1 2)), .int (nI (a.1 3)), .int (nI (a.1 5)), .int (nI (a.1 6))])), (q 10, .inl (cI, 32, .inl (a.2 0))), (q 11, .inl (cI, 32, .inl (a.2 1)))] (fun (r : Int32) (_ : Unit) => r = nI (a.2 0 k).toNatClampNeg) (fun (_ : Unit) => RWa cI q a) := by
  intro sz
  refine k_in (Qc := fun A => va_Qi (fun (r : Int32) (_ : Unit) => r = nI (a.2 0 k).toNatClampNeg) (kB D A (fun (_ : Unit) => RWa cI q a)) A) (cc := cX1_packetAt) (maxL := 2) (ret := (some .int)) (by decide) rfl (Nat.le_of_ble_eq_true rfl) ?_
  intro p e s m below meth c A ls hfix hr hlk hN hP hK hD hA hS hl
  have hfix : CallFix p m c cX1_packetAt 2 s [.ref (q 1), .int (nI k)].toArray wsX1_packetAt RX1 := hfix
  have hl : lv_has ls 2 [(0, .ref (q 1)), (1, .int (nI k))] := hl
  obtain ⟨hx, hb, hml, hown, hts⟩ := id hfix
  have hinX1 : ∀ w ∈ wsX10, w ∈ wsX1_packetAt := fun _ h => List.mem_cons_of_mem _ (List.mem_append_right _ h)
  have hP : va_P D vwCl [(q 1, .inr (1, [.ref (q 10), .ref (q 11), .int (nI (a.1 4)), .int (nI (a.1 0)), .int (nI (a.1 1)), .int (nI (a.1 2)), .int (nI (a.1 3)), .int (nI (a.1 5)), .int (nI (a.1 6))])), (q 10, .inl (cI, 32, .inl (a.2 0))), (q 11, .inl (cI, 32, .inl (a.2 1)))] s.heap := hP
  have hD : va_D A [(q 1, .inr (1, [.ref (q 10), .ref (q 11), .int (nI (a.1 4)), .int (nI (a.1 0)), .int (nI (a.1 1)), .int (nI (a.1 2)), .int (nI (a.1 3)), .int (nI (a.1 5)), .int (nI (a.1 6))])), (q 10, .inl (cI, 32, .inl (a.2 0))), (q 11, .inl (cI, 32, .inl (a.2 1)))] := hD
  have hS : ∃ (H : Heap) (locs : List Loc), H = s.heap ∧ locs = [] ∧ va_S A s.heap H locs := ⟨_, _, rfl, rfl, hS⟩
  obtain ⟨H, locs, hH, hlocs, hS⟩ := hS
  rw [← hH] at hP
  suffices hW9 : W p l e ({ frames := 0, cells := 0, slots := 0, locals := 0 } : Room) s m [.ref (q 1), .int (nI k)].toArray below meth c H locs 0 0 (MQ below (va_Qi (fun (r : Int32) (_ : Unit) => r = nI (a.2 0 k).toNatClampNeg) (kB D A (fun (_ : Unit) => RWa cI q a)) A) [.ref (q 1), .int (nI k)].toArray s 0 0 A) (F0 m 0 ls []) by rw [hH, hlocs] at hW9; exact hW9
  clear hH hlocs
  refine lv_iload_n hx hb dX1_packetAt_0 rfl (lv_at hl 1 rfl) ?_
  refine k_if_lt (tgt := 27) hx hb (by omega) dX1_packetAt_1 (by decide) ?_
  refine lv_iload_n hx hb dX1_packetAt_4 rfl (lv_at hl 1 rfl) ?_
  refine lv_aload_n hx hb dX1_packetAt_5 rfl (lv_at hl 0 rfl) ?_
  refine va_get (D := D) (ci := 1) (v := .int (nI (a.1 4))) (C := RX1) (T := TX1) (N := 9) hx hb hts hinX1 hown hK hP 0 rfl rfl 2 (by decide) (hts _ (List.mem_of_getElem? (i := 1) rfl)) (fun _ h9 => h9) rfl dX1_packetAt_6 ?_
  refine k_icmp_ge (tgt := 27) hx hb (by omega) (by omega) dX1_packetAt_9 (by decide) (fun c_9 => absurd c_9 (by omega)) (fun c_9 => ?_)
  refine lv_iload_n hx hb dX1_packetAt_12 rfl (lv_at hl 1 rfl) ?_
  refine lv_bipush (v := nI 32) hx hb dX1_packetAt_13 (by decide) ?_
  refine k_icmp_ge (tgt := 27) hx hb (by omega) (by omega) dX1_packetAt_15 (by decide) (fun c_15 => absurd c_15 (by omega)) (fun c_15 => ?_)
  refine lv_aload_n hx hb dX1_packetAt_18 rfl (lv_at hl 0 rfl) ?_
  refine va_get (D := D) (ci := 1) (v := .ref (q 10)) (C := RX1) (T := TX1) (N := 9) hx hb hts hinX1 hown hK hP 0 rfl rfl 0 (by decide) (hts _ (List.mem_of_getElem? (i := 2) rfl)) (fun _ h9 => h9) rfl dX1_packetAt_19 ?_
  refine lv_iload_n hx hb dX1_packetAt_22 rfl (lv_at hl 1 rfl) ?_
  refine k_iald hx hb hK hP 1 0 rfl rfl (by omega) (Nat.le_of_ble_eq_true rfl) dX1_packetAt_23 ?_
  refine lv_goto (tgt := 28) hx hb dX1_packetAt_24 (by decide) ?_
  exact k_iret (v := ((a.2 0) k)) hx hb hr hlk rfl () (vp_nI hq (by decide)) hP hD hS dX1_packetAt_28
set_option maxHeartbeats 4000000 in
set_option maxRecDepth 100000 in
theorem c_X1_removeFirst (l : Launch) (D : va_G) (cI cZ : ClassId) (q : Nat → Nat) (a : AS) (i4 : a.1 4 ≤ 32) (k : Nat) (hk : k ≤ a.1 4) : kMv l yX1_removeFirst wsX1_removeFirst 1 24 D (TY cI cZ) [.ref (q 1), .int (nI k)] [(q 1, .inr (1, [.ref (q 10), .ref (q 11), .int (nI (a.1 4)), .int (nI (a.1 0)), .int (nI (a.1 1)), .int (nI (a.1 2)), .int (nI (a.1 3)), .int (nI (a.1 5)), .int (nI (a.1 6))])), (q 10, .inl (cI, 32, .inl (a.2 0))), (q 11, .inl (cI, 32, .inl (a.2 1)))] (fun (_ : Unit) => True) (fun (_ : Unit) => RWa cI q (a_rest k a)) := by
  intro sz
  refine k_in (Qc := fun A => va_Qv (fun (_ : Unit) => True) (kB D A (fun (_ : Unit) => RWa cI q (a_rest k a))) A) (cc := cX1_removeFirst) (maxL := 5) (ret := none) (by decide) rfl (Nat.le_of_ble_eq_true rfl) ?_
  intro p e s m below meth c A ls hfix hr hlk hN hP hK hD hA hS hl
  have hfix : CallFix p m c cX1_removeFirst 5 s [.ref (q 1), .int (nI k)].toArray wsX1_removeFirst RX1 := hfix
  have hl : lv_has ls 5 [(0, .ref (q 1)), (1, .int (nI k))] := hl
  obtain ⟨hx, hb, hml, hown, hts⟩ := id hfix
  have hinX1 : ∀ w ∈ wsX10, w ∈ wsX1_removeFirst := fun _ h => List.mem_cons_of_mem _ (List.mem_append_right _ h)
  have hP : va_P D vwCl [(q 1, .inr (1, [.ref (q 10), .ref (q 11), .int (nI (a.1 4)), .int (nI (a.1 0)), .int (nI (a.1 1)), .int (nI (a.1 2)), .int (nI (a.1 3)), .int (nI (a.1 5)), .int (nI (a.1 6))])), (q 10, .inl (cI, 32, .inl (a.2 0))), (q 11, .inl (cI, 32, .inl (a.2 1)))] s.heap := hP
  have hD : va_D A [(q 1, .inr (1, [.ref (q 10), .ref (q 11), .int (nI (a.1 4)), .int (nI (a.1 0)), .int (nI (a.1 1)), .int (nI (a.1 2)), .int (nI (a.1 3)), .int (nI (a.1 5)), .int (nI (a.1 6))])), (q 10, .inl (cI, 32, .inl (a.2 0))), (q 11, .inl (cI, 32, .inl (a.2 1)))] := hD
  have hS : ∃ (H : Heap) (locs : List Loc), H = s.heap ∧ locs = [] ∧ va_S A s.heap H locs := ⟨_, _, rfl, rfl, hS⟩
  obtain ⟨H, locs, hH, hlocs, hS⟩ := hS
  rw [← hH] at hP
  suffices hW9 : W p l e ({ frames := 1, cells := 0, slots := 0, locals := 24 } : Room) s m [.ref (q 1), .int (nI k)].toArray below meth c H locs 0 0 (MQ below (va_Qv (fun (_ : Unit) => True) (kB D A (fun (_ : Unit) => RWa cI q (a_rest k a))) A) [.ref (q 1), .int (nI k)].toArray s 0 0 A) (F0 m 0 ls []) by rw [hH, hlocs] at hW9; exact hW9
  clear hH hlocs
  have at11 : ∀ (n9 : Nat) (i : Nat) (hf9 : (a.1 4 - k - i) < n9) (hi : i ≤ a.1 4 - k) (H : Heap) (locs : List Loc) (ls : Array Slot) (hP : va_P D vwCl [(q 1, .inr (1, [.ref (q 10), .ref (q 11), .int (nI (a.1 4)), .int (nI (a.1 0)), .int (nI (a.1 1)), .int (nI (a.1 2)), .int (nI (a.1 3)), .int (nI (a.1 5)), .int (nI (a.1 6))])), (q 10, .inl (cI, 32, .inl (shp (a.2 0) k i))), (q 11, .inl (cI, 32, .inl (shp (a.2 1) k i)))] H) (hD : va_D A [(q 1, .inr (1, [.ref (q 10), .ref (q 11), .int (nI (a.1 4)), .int (nI (a.1 0)), .int (nI (a.1 1)), .int (nI (a.1 2)), .int (nI (a.1 3)), .int (nI (a.1 5)), .int (nI (a.1 6))])), (q 10, .inl (cI, 32, .inl (shp (a.2 0) k i))), (q 11, .inl (cI, 32, .inl (shp (a.2 1) k i)))]) (hS : va_S A s.heap H locs) (hl : lv_has ls 5 [(0, .ref (q 1)), (1, .int (nI k)), (2, .int (nI k)), (3, .int (nI i)), (4, .int (nI (k + i)))]), W p l e ({ frames := 1, cells := 0, slots := 0, locals := 24 } : Room) s m [.ref (q 1), .int (nI k)].toArray below meth c H locs 0 0 (MQ below (va_Qv (fun (_ : Unit) => True) (kB D A (fun (_ : Unit) => RWa cI q (a_rest k a))) A) [.ref (q 1), .int (nI k)].toArray s 0 0 A) (F0 m 11 ls []) := by
    intro n9
    induction n9 with
    | zero => intro i hf9 hi H locs ls hP hD hS hl; exact absurd hf9 (Nat.not_lt_zero _)
    | succ n9 ih9 =>
      intro i hf9 hi H locs ls hP hD hS hl
      refine lv_iload hx hb dX1_removeFirst_11 (lv_at hl 4 rfl) ?_
      refine lv_aload_n hx hb dX1_removeFirst_13 rfl (lv_at hl 0 rfl) ?_
      refine va_get (D := D) (ci := 1) (v := .int (nI (a.1 4))) (C := RX1) (T := TX1) (N := 9) hx hb hts hinX1 hown hK hP 0 rfl rfl 2 (by decide) (hts _ (List.mem_of_getElem? (i := 5) rfl)) (fun _ h9 => h9) rfl dX1_removeFirst_14 ?_
      refine k_icmp_ge (tgt := 62) hx hb (by omega) (by omega) dX1_removeFirst_17 (by decide) (fun c_17 => ?_) (fun c_17 => ?_)
      · -- c_17 taken
        refine lv_aload_n hx hb dX1_removeFirst_62 rfl (lv_at hl 0 rfl) ?_
        refine lv_iload_n hx hb dX1_removeFirst_63 rfl (lv_at hl 3 rfl) ?_
        refine va_put (D := D) (ci := 1) (v := .int (nI i)) (ty := .int) (C := RX1) (T := TX1) (N := 9) hx hb hts hinX1 tyX1 tyX1_ok nmX1 hown hK hP hD hS 0 rfl rfl 2 (by decide) (hts _ (List.mem_of_getElem? (i := 5) rfl)) (fun _ h9 => h9) rfl (by decide +kernel) rfl rfl (Nat.le_of_ble_eq_true rfl) dX1_removeFirst_64 (fun H locs hP hD hS => ?_)
        have hP : va_P D vwCl [(q 1, .inr (1, [.ref (q 10), .ref (q 11), .int (nI i), .int (nI (a.1 0)), .int (nI (a.1 1)), .int (nI (a.1 2)), .int (nI (a.1 3)), .int (nI (a.1 5)), .int (nI (a.1 6))])), (q 10, .inl (cI, 32, .inl (shp (a.2 0) k i))), (q 11, .inl (cI, 32, .inl (shp (a.2 1) k i)))] H := hP
        have hD : va_D A [(q 1, .inr (1, [.ref (q 10), .ref (q 11), .int (nI i), .int (nI (a.1 0)), .int (nI (a.1 1)), .int (nI (a.1 2)), .int (nI (a.1 3)), .int (nI (a.1 5)), .int (nI (a.1 6))])), (q 10, .inl (cI, 32, .inl (shp (a.2 0) k i))), (q 11, .inl (cI, 32, .inl (shp (a.2 1) k i)))] := hD
        obtain rfl : i = a.1 4 - k := by omega
        exact k_vret hx hb hr hlk () trivial hP hD hS dX1_removeFirst_67
      · -- c_17 not taken
        refine lv_iload hx hb dX1_removeFirst_20 (lv_at hl 4 rfl) ?_
        refine lv_bipush (v := nI 32) hx hb dX1_removeFirst_22 (by decide) ?_
        refine k_icmp_ge (tgt := 62) hx hb (by omega) (by omega) dX1_removeFirst_24 (by decide) (fun c_24 => absurd c_24 (by omega)) (fun c_24 => ?_)
        refine lv_aload_n hx hb dX1_removeFirst_27 rfl (lv_at hl 0 rfl) ?_
        refine va_get (D := D) (ci := 1) (v := .ref (q 10)) (C := RX1) (T := TX1) (N := 9) hx hb hts hinX1 hown hK hP 0 rfl rfl 0 (by decide) (hts _ (List.mem_of_getElem? (i := 6) rfl)) (fun _ h9 => h9) rfl dX1_removeFirst_28 ?_
        refine lv_iload_n hx hb dX1_removeFirst_31 rfl (lv_at hl 3 rfl) ?_
        refine lv_aload_n hx hb dX1_removeFirst_32 rfl (lv_at hl 0 rfl) ?_
        refine va_get (D := D) (ci := 1) (v := .ref (q 10)) (C := RX1) (T := TX1) (N := 9) hx hb hts hinX1 hown hK hP 0 rfl rfl 0 (by decide) (hts _ (List.mem_of_getElem? (i := 6) rfl)) (fun _ h9 => h9) rfl dX1_removeFirst_33 ?_
        refine lv_iload hx hb dX1_removeFirst_36 (lv_at hl 4 rfl) ?_
        refine k_iald hx hb hK hP 1 0 rfl rfl (by omega) (Nat.le_of_ble_eq_true rfl) dX1_removeFirst_38 ?_
        refine k_iast hx hb hK hP hD hS 1 0 rfl rfl (by omega) (Nat.le_of_ble_eq_true rfl) dX1_removeFirst_39 (fun H locs hP hD hS => ?_)
        have hP : va_P D vwCl [(q 1, .inr (1, [.ref (q 10), .ref (q 11), .int (nI (a.1 4)), .int (nI (a.1 0)), .int (nI (a.1 1)), .int (nI (a.1 2)), .int (nI (a.1 3)), .int (nI (a.1 5)), .int (nI (a.1 6))])), (q 10, .inl (cI, 32, .inl (upd (shp (a.2 0) k i) i (((shp (a.2 0) k i) (k + i)))))), (q 11, .inl (cI, 32, .inl (shp (a.2 1) k i)))] H := hP
        have hD : va_D A [(q 1, .inr (1, [.ref (q 10), .ref (q 11), .int (nI (a.1 4)), .int (nI (a.1 0)), .int (nI (a.1 1)), .int (nI (a.1 2)), .int (nI (a.1 3)), .int (nI (a.1 5)), .int (nI (a.1 6))])), (q 10, .inl (cI, 32, .inl (upd (shp (a.2 0) k i) i (((shp (a.2 0) k i) (k + i)))))), (q 11, .inl (cI, 32, .inl (shp (a.2 1) k i)))] := hD
        refine lv_aload_n hx hb dX1_removeFirst_40 rfl (lv_at hl 0 rfl) ?_
        refine va_get (D := D) (ci := 1) (v := .ref (q 11)) (C := RX1) (T := TX1) (N := 9) hx hb hts hinX1 hown hK hP 0 rfl rfl 1 (by decide) (hts _ (List.mem_of_getElem? (i := 7) rfl)) (fun _ h9 => h9) rfl dX1_removeFirst_41 ?_
        refine lv_iload_n hx hb dX1_removeFirst_44 rfl (lv_at hl 3 rfl) ?_
        refine lv_aload_n hx hb dX1_removeFirst_45 rfl (lv_at hl 0 rfl) ?_
        refine va_get (D := D) (ci := 1) (v := .ref (q 11)) (C := RX1) (T := TX1) (N := 9) hx hb hts hinX1 hown hK hP 0 rfl rfl 1 (by decide) (hts _ (List.mem_of_getElem? (i := 7) rfl)) (fun _ h9 => h9) rfl dX1_removeFirst_46 ?_
        refine lv_iload hx hb dX1_removeFirst_49 (lv_at hl 4 rfl) ?_
        refine k_iald hx hb hK hP 2 0 rfl rfl (by omega) (Nat.le_of_ble_eq_true rfl) dX1_removeFirst_51 ?_
        refine k_iast hx hb hK hP hD hS 2 0 rfl rfl (by omega) (Nat.le_of_ble_eq_true rfl) dX1_removeFirst_52 (fun H locs hP hD hS => ?_)
        have hP : va_P D vwCl [(q 1, .inr (1, [.ref (q 10), .ref (q 11), .int (nI (a.1 4)), .int (nI (a.1 0)), .int (nI (a.1 1)), .int (nI (a.1 2)), .int (nI (a.1 3)), .int (nI (a.1 5)), .int (nI (a.1 6))])), (q 10, .inl (cI, 32, .inl (upd (shp (a.2 0) k i) i (((shp (a.2 0) k i) (k + i)))))), (q 11, .inl (cI, 32, .inl (upd (shp (a.2 1) k i) i (((shp (a.2 1) k i) (k + i))))))] H := hP
        have hD : va_D A [(q 1, .inr (1, [.ref (q 10), .ref (q 11), .int (nI (a.1 4)), .int (nI (a.1 0)), .int (nI (a.1 1)), .int (nI (a.1 2)), .int (nI (a.1 3)), .int (nI (a.1 5)), .int (nI (a.1 6))])), (q 10, .inl (cI, 32, .inl (upd (shp (a.2 0) k i) i (((shp (a.2 0) k i) (k + i)))))), (q 11, .inl (cI, 32, .inl (upd (shp (a.2 1) k i) i (((shp (a.2 1) k i) (k + i))))))] := hD
        refine lv_iinc (v := nI (i + 1)) (lv' := [(3, .int (nI (i + 1))), (0, .ref (q 1)), (1, .int (nI k)), (2, .int (nI k)), (4, .int (nI (k + i)))]) hx hb dX1_removeFirst_53 hl (k := 3) rfl (nI_add i 1) (by decide) rfl (fun ls hl => ?_)
        refine lv_iinc (v := nI (k + i + 1)) (lv' := [(4, .int (nI (k + i + 1))), (3, .int (nI (i + 1))), (0, .ref (q 1)), (1, .int (nI k)), (2, .int (nI k))]) hx hb dX1_removeFirst_56 hl (k := 4) rfl (nI_add (k + i) 1) (by decide) rfl (fun ls hl => ?_)
        refine lv_goto (tgt := 11) hx hb dX1_removeFirst_59 (by decide) ?_
        exact ih9 (i + 1) (by omega) (by omega) H locs ls (by rw [← shp_step, ← shp_step]; exact hP) (by rw [← shp_step, ← shp_step]; exact hD) hS (lv_sub hl [2, 3, 4, 1, 0] rfl)
  refine lv_iconst (v := nI 0) hx hb dX1_removeFirst_0 (by decide) ?_
  refine lv_iload_n hx hb dX1_removeFirst_1 rfl (lv_at hl 1 rfl) ?_
  refine va_mmax hx hb (hml.trans hl.1.symm) hown (hts _ (List.mem_of_getElem? (i := 1) rfl)) (hts _ (List.mem_of_getElem? (i := 2) rfl)) (hts _ (List.mem_of_getElem? (i := 3) rfl)) (hts _ (List.mem_of_getElem? (i := 4) rfl)) (Nat.le_of_ble_eq_true rfl) (Nat.le_of_ble_eq_true rfl) (Nat.zero_le _) (Nat.zero_le _) dX1_removeFirst_2 ?_
  rw [show (if nI 0 < nI k then nI k else nI 0) = nI k from (by rw [k_max (by omega) (by omega), Nat.zero_max])]
  refine lv_istore_n (lv' := [(2, .int (nI k)), (0, .ref (q 1)), (1, .int (nI k))]) hx hb dX1_removeFirst_5 rfl hl (by decide) rfl (fun ls hl => ?_)
  refine lv_iconst (v := nI 0) hx hb dX1_removeFirst_6 (by decide) ?_
  refine lv_istore_n (lv' := [(3, .int (nI 0)), (2, .int (nI k)), (0, .ref (q 1)), (1, .int (nI k))]) hx hb dX1_removeFirst_7 rfl hl (by decide) rfl (fun ls hl => ?_)
  refine lv_iload_n hx hb dX1_removeFirst_8 rfl (lv_at hl 1 rfl) ?_
  refine lv_istore (lv' := [(4, .int (nI k)), (3, .int (nI 0)), (2, .int (nI k)), (0, .ref (q 1)), (1, .int (nI k))]) hx hb dX1_removeFirst_9 hl (by decide) rfl (fun ls hl => ?_)
  exact at11 _ 0 (Nat.lt_succ_self _) (Nat.zero_le _) H locs ls (by rw [shp_0, shp_0]; exact hP) (by rw [shp_0, shp_0]; exact hD) hS (lv_sub hl [3, 4, 2, 1, 0] rfl)
end
section
/-! the store -/
set_option maxHeartbeats 4000000 in
set_option maxRecDepth 100000 in
theorem c_X2_add (l : Launch) (D : va_G) (cI cZ : ClassId) (q : Nat → Nat) (a : AS) (i14 : a.1 14 ≤ 300) (k : Nat) (hk : k < 300) : kMv l yX2_add wsX2_add 1 24 D (TY cI cZ) [.ref (q 2), .int (nI k)] [(q 2, .inr (2, [.ref (q 20), .ref (q 21), .int (nI (a.1 8)), .int (nI (a.1 14) - 1), .int (nI (a.1 13))])), (q 20, .inl (cZ, 300, .inl (a.2 2))), (q 21, .inl (cI, 300, .inl (a.2 4)))] (fun (_ : Unit) => True) (fun (_ : Unit) => SWa cI cZ q (sN (sA a 2 (upd (a.2 2) k (nI 1))) 14 (max (a.1 14) (k + 1)))) := by
  intro sz
  refine k_in (Qc := fun A => va_Qv (fun (_ : Unit) => True) (kB D A (fun (_ : Unit) => SWa cI cZ q (sN (sA a 2 (upd (a.2 2) k (nI 1))) 14 (max (a.1 14) (k + 1))))) A) (cc := cX2_add) (maxL := 2) (ret := none) (by decide) rfl (Nat.le_of_ble_eq_true rfl) ?_
  intro p e s m below meth c A ls hfix hr hlk hN hP hK hD hA hS hl
  have hfix : CallFix p m c cX2_add 2 s [.ref (q 2), .int (nI k)].toArray wsX2_add RX2 := hfix
  have hl : lv_has ls 2 [(0, .ref (q 2)), (1, .int (nI k))] := hl
  obtain ⟨hx, hb, hml, hown, hts⟩ := id hfix
  have hinX2 : ∀ w ∈ wsX20, w ∈ wsX2_add := fun _ h => List.mem_cons_of_mem _ (List.mem_append_right _ h)
  have hP : va_P D vwCl [(q 2, .inr (2, [.ref (q 20), .ref (q 21), .int (nI (a.1 8)), .int (nI (a.1 14) - 1), .int (nI (a.1 13))])), (q 20, .inl (cZ, 300, .inl (a.2 2))), (q 21, .inl (cI, 300, .inl (a.2 4)))] s.heap := hP
  have hD : va_D A [(q 2, .inr (2, [.ref (q 20), .ref (q 21), .int (nI (a.1 8)), .int (nI (a.1 14) - 1), .int (nI (a.1 13))])), (q 20, .inl (cZ, 300, .inl (a.2 2))), (q 21, .inl (cI, 300, .inl (a.2 4)))] := hD
  have hS : ∃ (H : Heap) (locs : List Loc), H = s.heap ∧ locs = [] ∧ va_S A s.heap H locs := ⟨_, _, rfl, rfl, hS⟩
  obtain ⟨H, locs, hH, hlocs, hS⟩ := hS
  rw [← hH] at hP
  suffices hW9 : W p l e ({ frames := 1, cells := 0, slots := 0, locals := 24 } : Room) s m [.ref (q 2), .int (nI k)].toArray below meth c H locs 0 0 (MQ below (va_Qv (fun (_ : Unit) => True) (kB D A (fun (_ : Unit) => SWa cI cZ q (sN (sA a 2 (upd (a.2 2) k (nI 1))) 14 (max (a.1 14) (k + 1))))) A) [.ref (q 2), .int (nI k)].toArray s 0 0 A) (F0 m 0 ls []) by rw [hH, hlocs] at hW9; exact hW9
  clear hH hlocs
  refine lv_iload_n hx hb dX2_add_0 rfl (lv_at hl 1 rfl) ?_
  refine k_callNi (n := 1) (As := [.int (nI k)]) (rest := []) hfix hN hK hP hD hS hA hl.1 (c_X3_isPacket l D cI cZ (nI k)) (fun _ => rfl) gX2_add_X3_isPacket_n29 rfl hN.m29 (hts _ (List.mem_of_getElem? (i := 8) rfl)) (hts _ (List.mem_of_getElem? (i := 7) rfl)) (by decide +kernel) rfl ⟨Nat.le_of_ble_eq_true rfl, Nat.le_of_ble_eq_true rfl⟩ [0, 1, 2] rfl (by decide) rfl (Nat.le_of_ble_eq_true rfl) ⟨Nat.zero_le _, Nat.zero_le _⟩ dX2_add_1 (fun r_1 u H locs hw_1 hP hD hS => ?_)
  have e_1 : (inR (nI k) 300) := (nI_inR (by decide) hk)
  rw [if_pos e_1] at hw_1
  obtain rfl : r_1 = nI 1 := hw_1
  refine k_if_eq (tgt := 26) hx hb (by decide) dX2_add_4 (by decide) (fun q => absurd q (by decide)) (fun _ => ?_)
  refine lv_aload_n hx hb dX2_add_7 rfl (lv_at hl 0 rfl) ?_
  refine va_get (D := D) (ci := 2) (v := .ref (q 20)) (C := RX2) (T := TX2) (N := 5) hx hb hts hinX2 hown hK hP 0 rfl rfl 0 (by decide) (hts _ (List.mem_of_getElem? (i := 1) rfl)) (fun _ h9 => h9) rfl dX2_add_8 ?_
  refine lv_iload_n hx hb dX2_add_11 rfl (lv_at hl 1 rfl) ?_
  refine lv_iconst (v := nI 1) hx hb dX2_add_12 (by decide) ?_
  refine k_zast hx hb hK hP hD hS 1 1 rfl rfl (by omega) (Nat.le_of_ble_eq_true rfl) (by decide) dX2_add_13 (fun H locs hP hD hS => ?_)
  have hP : va_P D vwCl [(q 2, .inr (2, [.ref (q 20), .ref (q 21), .int (nI (a.1 8)), .int (nI (a.1 14) - 1), .int (nI (a.1 13))])), (q 20, .inl (cZ, 300, .inl (upd (a.2 2) k (nI 1)))), (q 21, .inl (cI, 300, .inl (a.2 4)))] H := hP
  have hD : va_D A [(q 2, .inr (2, [.ref (q 20), .ref (q 21), .int (nI (a.1 8)), .int (nI (a.1 14) - 1), .int (nI (a.1 13))])), (q 20, .inl (cZ, 300, .inl (upd (a.2 2) k (nI 1)))), (q 21, .inl (cI, 300, .inl (a.2 4)))] := hD
  refine lv_aload_n hx hb dX2_add_14 rfl (lv_at hl 0 rfl) ?_
  refine lv_aload_n hx hb dX2_add_15 rfl (lv_at hl 0 rfl) ?_
  refine va_get (D := D) (ci := 2) (v := .int (nI (a.1 14) - 1)) (C := RX2) (T := TX2) (N := 5) hx hb hts hinX2 hown hK hP 0 rfl rfl 3 (by decide) (hts _ (List.mem_of_getElem? (i := 2) rfl)) (fun _ h9 => h9) rfl dX2_add_16 ?_
  refine lv_iload_n hx hb dX2_add_19 rfl (lv_at hl 1 rfl) ?_
  refine va_mmax hx hb (hml.trans hl.1.symm) hown (hts _ (List.mem_of_getElem? (i := 3) rfl)) (hts _ (List.mem_of_getElem? (i := 4) rfl)) (hts _ (List.mem_of_getElem? (i := 5) rfl)) (hts _ (List.mem_of_getElem? (i := 6) rfl)) (Nat.le_of_ble_eq_true rfl) (Nat.le_of_ble_eq_true rfl) (Nat.zero_le _) (Nat.zero_le _) dX2_add_20 ?_
  rw [show (if (nI (a.1 14) - 1) < nI k then nI k else (nI (a.1 14) - 1)) = (nI (max (a.1 14) (k + 1)) - 1) from k_maxh i14 hk]
  refine va_put (D := D) (ci := 2) (v := .int (nI (max (a.1 14) (k + 1)) - 1)) (ty := .int) (C := RX2) (T := TX2) (N := 5) hx hb hts hinX2 tyX2 tyX2_ok nmX2 hown hK hP hD hS 0 rfl rfl 3 (by decide) (hts _ (List.mem_of_getElem? (i := 2) rfl)) (fun _ h9 => h9) rfl (by decide +kernel) rfl rfl (Nat.le_of_ble_eq_true rfl) dX2_add_23 (fun H locs hP hD hS => ?_)
  have hP : va_P D vwCl [(q 2, .inr (2, [.ref (q 20), .ref (q 21), .int (nI (a.1 8)), .int (nI (max (a.1 14) (k + 1)) - 1), .int (nI (a.1 13))])), (q 20, .inl (cZ, 300, .inl (upd (a.2 2) k (nI 1)))), (q 21, .inl (cI, 300, .inl (a.2 4)))] H := hP
  have hD : va_D A [(q 2, .inr (2, [.ref (q 20), .ref (q 21), .int (nI (a.1 8)), .int (nI (max (a.1 14) (k + 1)) - 1), .int (nI (a.1 13))])), (q 20, .inl (cZ, 300, .inl (upd (a.2 2) k (nI 1)))), (q 21, .inl (cI, 300, .inl (a.2 4)))] := hD
  exact k_vret hx hb hr hlk () trivial hP hD hS dX2_add_26
set_option maxHeartbeats 4000000 in
set_option maxRecDepth 100000 in
theorem c_X2_holds (l : Launch) (D : va_G) (cI cZ : ClassId) (q : Nat → Nat) (a : AS) (k : Nat) (hk : k < 300) : kMi l yX2_holds wsX2_holds 1 20 D (TY cI cZ) [.ref (q 2), .int (nI k)] [(q 2, .inr (2, [.ref (q 20), .ref (q 21), .int (nI (a.1 8)), .int (nI (a.1 14) - 1), .int (nI (a.1 13))])), (q 20, .inl (cZ, 300, .inl (a.2 2))), (q 21, .inl (cI, 300, .inl (a.2 4)))] (fun (r : Int32) (_ : Unit) => r = (if a.2 2 k = 0 then nI 0 else nI 1)) (fun (_ : Unit) => SWa cI cZ q a) := by
  intro sz
  refine k_in (Qc := fun A => va_Qi (fun (r : Int32) (_ : Unit) => r = (if a.2 2 k = 0 then nI 0 else nI 1)) (kB D A (fun (_ : Unit) => SWa cI cZ q a)) A) (cc := cX2_holds) (maxL := 2) (ret := (some .boolean)) (by decide) rfl (Nat.le_of_ble_eq_true rfl) ?_
  intro p e s m below meth c A ls hfix hr hlk hN hP hK hD hA hS hl
  have hfix : CallFix p m c cX2_holds 2 s [.ref (q 2), .int (nI k)].toArray wsX2_holds RX2 := hfix
  have hl : lv_has ls 2 [(0, .ref (q 2)), (1, .int (nI k))] := hl
  obtain ⟨hx, hb, hml, hown, hts⟩ := id hfix
  have hinX2 : ∀ w ∈ wsX20, w ∈ wsX2_holds := fun _ h => List.mem_cons_of_mem _ (List.mem_append_right _ h)
  have hP : va_P D vwCl [(q 2, .inr (2, [.ref (q 20), .ref (q 21), .int (nI (a.1 8)), .int (nI (a.1 14) - 1), .int (nI (a.1 13))])), (q 20, .inl (cZ, 300, .inl (a.2 2))), (q 21, .inl (cI, 300, .inl (a.2 4)))] s.heap := hP
  have hD : va_D A [(q 2, .inr (2, [.ref (q 20), .ref (q 21), .int (nI (a.1 8)), .int (nI (a.1 14) - 1), .int (nI (a.1 13))])), (q 20, .inl (cZ, 300, .inl (a.2 2))), (q 21, .inl (cI, 300, .inl (a.2 4)))] := hD
  have hS : ∃ (H : Heap) (locs : List Loc), H = s.heap ∧ locs = [] ∧ va_S A s.heap H locs := ⟨_, _, rfl, rfl, hS⟩
  obtain ⟨H, locs, hH, hlocs, hS⟩ := hS
  rw [← hH] at hP
  suffices hW9 : W p l e ({ frames := 1, cells := 0, slots := 0, locals := 20 } : Room) s m [.ref (q 2), .int (nI k)].toArray below meth c H locs 0 0 (MQ below (va_Qi (fun (r : Int32) (_ : Unit) => r = (if a.2 2 k = 0 then nI 0 else nI 1)) (kB D A (fun (_ : Unit) => SWa cI cZ q a)) A) [.ref (q 2), .int (nI k)].toArray s 0 0 A) (F0 m 0 ls []) by rw [hH, hlocs] at hW9; exact hW9
  clear hH hlocs
  refine lv_iload_n hx hb dX2_holds_0 rfl (lv_at hl 1 rfl) ?_
  refine k_callNi (n := 1) (As := [.int (nI k)]) (rest := []) hfix hN hK hP hD hS hA hl.1 (c_X3_isPacket l D cI cZ (nI k)) (fun _ => rfl) gX2_holds_X3_isPacket_n29 rfl hN.m29 (hts _ (List.mem_of_getElem? (i := 3) rfl)) (hts _ (List.mem_of_getElem? (i := 2) rfl)) (by decide +kernel) rfl ⟨Nat.le_of_ble_eq_true rfl, Nat.le_of_ble_eq_true rfl⟩ [0, 1, 2] rfl (by decide) rfl (Nat.le_of_ble_eq_true rfl) ⟨Nat.zero_le _, Nat.zero_le _⟩ dX2_holds_1 (fun r_1 u H locs hw_1 hP hD hS => ?_)
  have e_1 : (inR (nI k) 300) := (nI_inR (by decide) hk)
  rw [if_pos e_1] at hw_1
  obtain rfl : r_1 = nI 1 := hw_1
  refine k_if_eq (tgt := 20) hx hb (by decide) dX2_holds_4 (by decide) (fun q => absurd q (by decide)) (fun _ => ?_)
  refine lv_aload_n hx hb dX2_holds_7 rfl (lv_at hl 0 rfl) ?_
  refine va_get (D := D) (ci := 2) (v := .ref (q 20)) (C := RX2) (T := TX2) (N := 5) hx hb hts hinX2 hown hK hP 0 rfl rfl 0 (by decide) (hts _ (List.mem_of_getElem? (i := 1) rfl)) (fun _ h9 => h9) rfl dX2_holds_8 ?_
  refine lv_iload_n hx hb dX2_holds_11 rfl (lv_at hl 1 rfl) ?_
  refine k_zald hx hb hK hP 1 1 rfl rfl (by omega) (Nat.le_of_ble_eq_true rfl) dX2_holds_12 ?_
  refine lv_if_eq (tgt := 20) hx hb dX2_holds_13 (by decide) (fun c_13 => ?_) (fun c_13 => ?_)
  · -- c_13 taken
    refine lv_iconst (v := nI 0) hx hb dX2_holds_20 (by decide) ?_
    exact k_iret (v := nI 0) hx hb hr hlk (by decide) () ((if_pos c_13).symm) hP hD hS dX2_holds_21
  · -- c_13 not taken
    refine lv_iconst (v := nI 1) hx hb dX2_holds_16 (by decide) ?_
    refine lv_goto (tgt := 21) hx hb dX2_holds_17 (by decide) ?_
    exact k_iret (v := nI 1) hx hb hr hlk (by decide) () ((if_neg c_13).symm) hP hD hS dX2_holds_21
set_option maxHeartbeats 4000000 in
set_option maxRecDepth 100000 in
theorem c_X2_holdsFrame (l : Launch) (D : va_G) (cI cZ : ClassId) (q : Nat → Nat) (a : AS) (f : Nat) (hf : f < 100) : kMi l yX2_holdsFrame wsX2_holdsFrame 0 0 D (TY cI cZ) [.ref (q 2), .int (nI f)] [(q 2, .inr (2, [.ref (q 20), .ref (q 21), .int (nI (a.1 8)), .int (nI (a.1 14) - 1), .int (nI (a.1 13))])), (q 20, .inl (cZ, 300, .inl (a.2 2))), (q 21, .inl (cI, 300, .inl (a.2 4)))] (fun (r : Int32) (_ : Unit) => r = (if whl (a.2 2) f then nI 1 else nI 0)) (fun (_ : Unit) => SWa cI cZ q a) := by
  have e3 : f * 3 = 3 * f := Nat.mul_comm _ _
  intro sz
  refine k_in (Qc := fun A => va_Qi (fun (r : Int32) (_ : Unit) => r = (if whl (a.2 2) f then nI 1 else nI 0)) (kB D A (fun (_ : Unit) => SWa cI cZ q a)) A) (cc := cX2_holdsFrame) (maxL := 3) (ret := (some .boolean)) (by decide) rfl (Nat.le_of_ble_eq_true rfl) ?_
  intro p e s m below meth c A ls hfix hr hlk hN hP hK hD hA hS hl
  have hfix : CallFix p m c cX2_holdsFrame 3 s [.ref (q 2), .int (nI f)].toArray wsX2_holdsFrame RX2 := hfix
  have hl : lv_has ls 3 [(0, .ref (q 2)), (1, .int (nI f))] := hl
  obtain ⟨hx, hb, hml, hown, hts⟩ := id hfix
  have hinX2 : ∀ w ∈ wsX20, w ∈ wsX2_holdsFrame := fun _ h => List.mem_cons_of_mem _ (List.mem_append_right _ h)
  have hP : va_P D vwCl [(q 2, .inr (2, [.ref (q 20), .ref (q 21), .int (nI (a.1 8)), .int (nI (a.1 14) - 1), .int (nI (a.1 13))])), (q 20, .inl (cZ, 300, .inl (a.2 2))), (q 21, .inl (cI, 300, .inl (a.2 4)))] s.heap := hP
  have hD : va_D A [(q 2, .inr (2, [.ref (q 20), .ref (q 21), .int (nI (a.1 8)), .int (nI (a.1 14) - 1), .int (nI (a.1 13))])), (q 20, .inl (cZ, 300, .inl (a.2 2))), (q 21, .inl (cI, 300, .inl (a.2 4)))] := hD
  have hS : ∃ (H : Heap) (locs : List Loc), H = s.heap ∧ locs = [] ∧ va_S A s.heap H locs := ⟨_, _, rfl, rfl, hS⟩
  obtain ⟨H, locs, hH, hlocs, hS⟩ := hS
  rw [← hH] at hP
  suffices hW9 : W p l e ({ frames := 0, cells := 0, slots := 0, locals := 0 } : Room) s m [.ref (q 2), .int (nI f)].toArray below meth c H locs 0 0 (MQ below (va_Qi (fun (r : Int32) (_ : Unit) => r = (if whl (a.2 2) f then nI 1 else nI 0)) (kB D A (fun (_ : Unit) => SWa cI cZ q a)) A) [.ref (q 2), .int (nI f)].toArray s 0 0 A) (F0 m 0 ls []) by rw [hH, hlocs] at hW9; exact hW9
  clear hH hlocs
  refine lv_iload_n hx hb dX2_holdsFrame_0 rfl (lv_at hl 1 rfl) ?_
  refine lv_iconst (v := nI 3) hx hb dX2_holdsFrame_1 (by decide) ?_
  refine k_imul hx hb dX2_holdsFrame_2 ?_
  refine lv_istore_n (lv' := [(2, .int (nI (f * 3))), (0, .ref (q 2)), (1, .int (nI f))]) hx hb dX2_holdsFrame_3 rfl hl (by decide) rfl (fun ls hl => ?_)
  refine lv_iload_n hx hb dX2_holdsFrame_4 rfl (lv_at hl 2 rfl) ?_
  refine k_if_lt (tgt := 49) hx hb (by omega) dX2_holdsFrame_5 (by decide) ?_
  refine lv_iload_n hx hb dX2_holdsFrame_8 rfl (lv_at hl 2 rfl) ?_
  refine lv_bipush (v := nI 100) hx hb dX2_holdsFrame_9 (by decide) ?_
  refine k_icmp_ge (tgt := 49) hx hb (by omega) (by omega) dX2_holdsFrame_11 (by decide) (fun c_11 => absurd c_11 (by omega)) (fun c_11 => ?_)
  refine lv_aload_n hx hb dX2_holdsFrame_14 rfl (lv_at hl 1 rfl) ?_
  refine va_get (D := D) (ci := 2) (v := .ref (q 20)) (C := RX2) (T := TX2) (N := 5) hx hb hts hinX2 hown hK hP 0 rfl rfl 0 (by decide) (hts _ (List.mem_of_getElem? (i := 1) rfl)) (fun _ h9 => h9) rfl dX2_holdsFrame_15 ?_
  refine lv_iload_n hx hb dX2_holdsFrame_18 rfl (lv_at hl 0 rfl) ?_
  refine k_zald hx hb hK hP 1 1 rfl rfl (by omega) (Nat.le_of_ble_eq_true rfl) dX2_holdsFrame_19 ?_
  refine lv_if_eq (tgt := 49) hx hb dX2_holdsFrame_20 (by decide) (fun c_20 => ?_) (fun c_20 => ?_)
  · -- c_20 taken
    refine lv_iconst (v := nI 0) hx hb dX2_holdsFrame_49 (by decide) ?_
    exact k_iret (v := nI 0) hx hb hr hlk (by decide) () ((if_neg (fun h => h.1 (by rw [← e3]; exact c_20))).symm) hP hD hS dX2_holdsFrame_50
  · -- c_20 not taken
    refine lv_aload_n hx hb dX2_holdsFrame_23 rfl (lv_at hl 1 rfl) ?_
    refine va_get (D := D) (ci := 2) (v := .ref (q 20)) (C := RX2) (T := TX2) (N := 5) hx hb hts hinX2 hown hK hP 0 rfl rfl 0 (by decide) (hts _ (List.mem_of_getElem? (i := 1) rfl)) (fun _ h9 => h9) rfl dX2_holdsFrame_24 ?_
    refine lv_iload_n hx hb dX2_holdsFrame_27 rfl (lv_at hl 0 rfl) ?_
    refine lv_iconst (v := nI 1) hx hb dX2_holdsFrame_28 (by decide) ?_
    refine k_iadd hx hb dX2_holdsFrame_29 ?_
    refine k_zald hx hb hK hP 1 1 rfl rfl (by omega) (Nat.le_of_ble_eq_true rfl) dX2_holdsFrame_30 ?_
    refine lv_if_eq (tgt := 49) hx hb dX2_holdsFrame_31 (by decide) (fun c_31 => ?_) (fun c_31 => ?_)
    · -- c_31 taken
      refine lv_iconst (v := nI 0) hx hb dX2_holdsFrame_49 (by decide) ?_
      exact k_iret (v := nI 0) hx hb hr hlk (by decide) () ((if_neg (fun h => h.2.1 (by rw [← e3]; exact c_31))).symm) hP hD hS dX2_holdsFrame_50
    · -- c_31 not taken
      refine lv_aload_n hx hb dX2_holdsFrame_34 rfl (lv_at hl 1 rfl) ?_
      refine va_get (D := D) (ci := 2) (v := .ref (q 20)) (C := RX2) (T := TX2) (N := 5) hx hb hts hinX2 hown hK hP 0 rfl rfl 0 (by decide) (hts _ (List.mem_of_getElem? (i := 1) rfl)) (fun _ h9 => h9) rfl dX2_holdsFrame_35 ?_
      refine lv_iload_n hx hb dX2_holdsFrame_38 rfl (lv_at hl 0 rfl) ?_
      refine lv_iconst (v := nI 2) hx hb dX2_holdsFrame_39 (by decide) ?_
      refine k_iadd hx hb dX2_holdsFrame_40 ?_
      refine k_zald hx hb hK hP 1 1 rfl rfl (by omega) (Nat.le_of_ble_eq_true rfl) dX2_holdsFrame_41 ?_
      refine lv_if_eq (tgt := 49) hx hb dX2_holdsFrame_42 (by decide) (fun c_42 => ?_) (fun c_42 => ?_)
      · -- c_42 taken
        refine lv_iconst (v := nI 0) hx hb dX2_holdsFrame_49 (by decide) ?_
        exact k_iret (v := nI 0) hx hb hr hlk (by decide) () ((if_neg (fun h => h.2.2 (by rw [← e3]; exact c_42))).symm) hP hD hS dX2_holdsFrame_50
      · -- c_42 not taken
        refine lv_iconst (v := nI 1) hx hb dX2_holdsFrame_45 (by decide) ?_
        refine lv_goto (tgt := 50) hx hb dX2_holdsFrame_46 (by decide) ?_
        exact k_iret (v := nI 1) hx hb hr hlk (by decide) () ((if_pos ⟨by rw [← e3]; exact c_20, by rw [← e3]; exact c_31, by rw [← e3]; exact c_42⟩).symm) hP hD hS dX2_holdsFrame_50
set_option maxHeartbeats 4000000 in
set_option maxRecDepth 100000 in
theorem c_X2_ask (l : Launch) (D : va_G) (cI cZ : ClassId) (q : Nat → Nat) (a : AS) (p9 : Nat) (hp : a.1 8 < 300) : kMv l yX2_ask wsX2_ask 0 0 D (TY cI cZ) [.ref (q 2), .int (nI p9)] [(q 2, .inr (2, [.ref (q 20), .ref (q 21), .int (nI (a.1 8)), .int (nI (a.1 14) - 1), .int (nI (a.1 13))])), (q 20, .inl (cZ, 300, .inl (a.2 2))), (q 21, .inl (cI, 300, .inl (a.2 4)))] (fun (_ : Unit) => True) (fun (_ : Unit) => SWa cI cZ q (sN (sA a 4 (upd (a.2 4) (a.1 8) (nI p9))) 8 (a.1 8 + 1))) := by
  intro sz
  refine k_in (Qc := fun A => va_Qv (fun (_ : Unit) => True) (kB D A (fun (_ : Unit) => SWa cI cZ q (sN (sA a 4 (upd (a.2 4) (a.1 8) (nI p9))) 8 (a.1 8 + 1)))) A) (cc := cX2_ask) (maxL := 2) (ret := none) (by decide) rfl (Nat.le_of_ble_eq_true rfl) ?_
  intro p e s m below meth c A ls hfix hr hlk hN hP hK hD hA hS hl
  have hfix : CallFix p m c cX2_ask 2 s [.ref (q 2), .int (nI p9)].toArray wsX2_ask RX2 := hfix
  have hl : lv_has ls 2 [(0, .ref (q 2)), (1, .int (nI p9))] := hl
  obtain ⟨hx, hb, hml, hown, hts⟩ := id hfix
  have hinX2 : ∀ w ∈ wsX20, w ∈ wsX2_ask := fun _ h => List.mem_cons_of_mem _ (List.mem_append_right _ h)
  have hP : va_P D vwCl [(q 2, .inr (2, [.ref (q 20), .ref (q 21), .int (nI (a.1 8)), .int (nI (a.1 14) - 1), .int (nI (a.1 13))])), (q 20, .inl (cZ, 300, .inl (a.2 2))), (q 21, .inl (cI, 300, .inl (a.2 4)))] s.heap := hP
  have hD : va_D A [(q 2, .inr (2, [.ref (q 20), .ref (q 21), .int (nI (a.1 8)), .int (nI (a.1 14) - 1), .int (nI (a.1 13))])), (q 20, .inl (cZ, 300, .inl (a.2 2))), (q 21, .inl (cI, 300, .inl (a.2 4)))] := hD
  have hS : ∃ (H : Heap) (locs : List Loc), H = s.heap ∧ locs = [] ∧ va_S A s.heap H locs := ⟨_, _, rfl, rfl, hS⟩
  obtain ⟨H, locs, hH, hlocs, hS⟩ := hS
  rw [← hH] at hP
  suffices hW9 : W p l e ({ frames := 0, cells := 0, slots := 0, locals := 0 } : Room) s m [.ref (q 2), .int (nI p9)].toArray below meth c H locs 0 0 (MQ below (va_Qv (fun (_ : Unit) => True) (kB D A (fun (_ : Unit) => SWa cI cZ q (sN (sA a 4 (upd (a.2 4) (a.1 8) (nI p9))) 8 (a.1 8 + 1)))) A) [.ref (q 2), .int (nI p9)].toArray s 0 0 A) (F0 m 0 ls []) by rw [hH, hlocs] at hW9; exact hW9
  clear hH hlocs
  refine lv_aload_n hx hb dX2_ask_0 rfl (lv_at hl 0 rfl) ?_
  refine va_get (D := D) (ci := 2) (v := .int (nI (a.1 8))) (C := RX2) (T := TX2) (N := 5) hx hb hts hinX2 hown hK hP 0 rfl rfl 2 (by decide) (hts _ (List.mem_of_getElem? (i := 1) rfl)) (fun _ h9 => h9) rfl dX2_ask_1 ?_
  refine lv_sipush (v := nI 300) hx hb dX2_ask_4 (by decide) ?_
  refine k_icmp_ge (tgt := 30) hx hb (by omega) (by omega) dX2_ask_7 (by decide) (fun c_7 => absurd c_7 (by omega)) (fun c_7 => ?_)
  refine lv_aload_n hx hb dX2_ask_10 rfl (lv_at hl 0 rfl) ?_
  refine va_get (D := D) (ci := 2) (v := .ref (q 21)) (C := RX2) (T := TX2) (N := 5) hx hb hts hinX2 hown hK hP 0 rfl rfl 1 (by decide) (hts _ (List.mem_of_getElem? (i := 2) rfl)) (fun _ h9 => h9) rfl dX2_ask_11 ?_
  refine lv_aload_n hx hb dX2_ask_14 rfl (lv_at hl 0 rfl) ?_
  refine va_get (D := D) (ci := 2) (v := .int (nI (a.1 8))) (C := RX2) (T := TX2) (N := 5) hx hb hts hinX2 hown hK hP 0 rfl rfl 2 (by decide) (hts _ (List.mem_of_getElem? (i := 1) rfl)) (fun _ h9 => h9) rfl dX2_ask_15 ?_
  refine lv_iload_n hx hb dX2_ask_18 rfl (lv_at hl 1 rfl) ?_
  refine k_iast hx hb hK hP hD hS 2 0 rfl rfl (by omega) (Nat.le_of_ble_eq_true rfl) dX2_ask_19 (fun H locs hP hD hS => ?_)
  have hP : va_P D vwCl [(q 2, .inr (2, [.ref (q 20), .ref (q 21), .int (nI (a.1 8)), .int (nI (a.1 14) - 1), .int (nI (a.1 13))])), (q 20, .inl (cZ, 300, .inl (a.2 2))), (q 21, .inl (cI, 300, .inl (upd (a.2 4) (a.1 8) (nI p9))))] H := hP
  have hD : va_D A [(q 2, .inr (2, [.ref (q 20), .ref (q 21), .int (nI (a.1 8)), .int (nI (a.1 14) - 1), .int (nI (a.1 13))])), (q 20, .inl (cZ, 300, .inl (a.2 2))), (q 21, .inl (cI, 300, .inl (upd (a.2 4) (a.1 8) (nI p9))))] := hD
  refine lv_aload_n hx hb dX2_ask_20 rfl (lv_at hl 0 rfl) ?_
  refine lv_dup hx hb dX2_ask_21 rfl ?_
  refine va_get (D := D) (ci := 2) (v := .int (nI (a.1 8))) (C := RX2) (T := TX2) (N := 5) hx hb hts hinX2 hown hK hP 0 rfl rfl 2 (by decide) (hts _ (List.mem_of_getElem? (i := 1) rfl)) (fun _ h9 => h9) rfl dX2_ask_22 ?_
  refine lv_iconst (v := nI 1) hx hb dX2_ask_25 (by decide) ?_
  refine k_iadd hx hb dX2_ask_26 ?_
  refine va_put (D := D) (ci := 2) (v := .int (nI ((a.1 8) + 1))) (ty := .int) (C := RX2) (T := TX2) (N := 5) hx hb hts hinX2 tyX2 tyX2_ok nmX2 hown hK hP hD hS 0 rfl rfl 2 (by decide) (hts _ (List.mem_of_getElem? (i := 1) rfl)) (fun _ h9 => h9) rfl (by decide +kernel) rfl rfl (Nat.le_of_ble_eq_true rfl) dX2_ask_27 (fun H locs hP hD hS => ?_)
  have hP : va_P D vwCl [(q 2, .inr (2, [.ref (q 20), .ref (q 21), .int (nI ((a.1 8) + 1)), .int (nI (a.1 14) - 1), .int (nI (a.1 13))])), (q 20, .inl (cZ, 300, .inl (a.2 2))), (q 21, .inl (cI, 300, .inl (upd (a.2 4) (a.1 8) (nI p9))))] H := hP
  have hD : va_D A [(q 2, .inr (2, [.ref (q 20), .ref (q 21), .int (nI ((a.1 8) + 1)), .int (nI (a.1 14) - 1), .int (nI (a.1 13))])), (q 20, .inl (cZ, 300, .inl (a.2 2))), (q 21, .inl (cI, 300, .inl (upd (a.2 4) (a.1 8) (nI p9))))] := hD
  exact k_vret hx hb hr hlk () trivial hP hD hS dX2_ask_30
set_option maxHeartbeats 4000000 in
set_option maxRecDepth 100000 in
theorem c_X2_askForMissing (l : Launch) (D : va_G) (cI cZ : ClassId) (q : Nat → Nat) (a : AS) (hI : AI a) : kMv l yX2_askForMissing wsX2_askForMissing 2 41 D (TY cI cZ) [.ref (q 2), .int (nI (a.1 11))] [(q 2, .inr (2, [.ref (q 20), .ref (q 21), .int (nI (a.1 8)), .int (nI (a.1 14) - 1), .int (nI (a.1 13))])), (q 20, .inl (cZ, 300, .inl (a.2 2))), (q 21, .inl (cI, 300, .inl (a.2 4)))] (fun (_ : Unit) => True) (fun (_ : Unit) => SWa cI cZ q (a_ask a)) := by
  obtain ⟨⟨i0, i4, i5, i7, i9, i10, i11, i12⟩, ⟨i1, i2, i3⟩, ⟨i8, i13, i14⟩, iQ, iH0, iH1, iW0, iW1, iN⟩ := id hI
  intro sz
  refine k_in (Qc := fun A => va_Qv (fun (_ : Unit) => True) (kB D A (fun (_ : Unit) => SWa cI cZ q (a_ask a))) A) (cc := cX2_askForMissing) (maxL := 3) (ret := none) (by decide) rfl (Nat.le_of_ble_eq_true rfl) ?_
  intro p e s m below meth c A ls hfix hr hlk hN hP hK hD hA hS hl
  have hfix : CallFix p m c cX2_askForMissing 3 s [.ref (q 2), .int (nI (a.1 11))].toArray wsX2_askForMissing RX2 := hfix
  have hl : lv_has ls 3 [(0, .ref (q 2)), (1, .int (nI (a.1 11)))] := hl
  obtain ⟨hx, hb, hml, hown, hts⟩ := id hfix
  have hinX2 : ∀ w ∈ wsX20, w ∈ wsX2_askForMissing := fun _ h => List.mem_cons_of_mem _ (List.mem_append_right _ h)
  have hP : va_P D vwCl [(q 2, .inr (2, [.ref (q 20), .ref (q 21), .int (nI (a.1 8)), .int (nI (a.1 14) - 1), .int (nI (a.1 13))])), (q 20, .inl (cZ, 300, .inl (a.2 2))), (q 21, .inl (cI, 300, .inl (a.2 4)))] s.heap := hP
  have hD : va_D A [(q 2, .inr (2, [.ref (q 20), .ref (q 21), .int (nI (a.1 8)), .int (nI (a.1 14) - 1), .int (nI (a.1 13))])), (q 20, .inl (cZ, 300, .inl (a.2 2))), (q 21, .inl (cI, 300, .inl (a.2 4)))] := hD
  have hS : ∃ (H : Heap) (locs : List Loc), H = s.heap ∧ locs = [] ∧ va_S A s.heap H locs := ⟨_, _, rfl, rfl, hS⟩
  obtain ⟨H, locs, hH, hlocs, hS⟩ := hS
  rw [← hH] at hP
  suffices hW9 : W p l e ({ frames := 2, cells := 0, slots := 0, locals := 41 } : Room) s m [.ref (q 2), .int (nI (a.1 11))].toArray below meth c H locs 0 0 (MQ below (va_Qv (fun (_ : Unit) => True) (kB D A (fun (_ : Unit) => SWa cI cZ q (a_ask a))) A) [.ref (q 2), .int (nI (a.1 11))].toArray s 0 0 A) (F0 m 0 ls []) by rw [hH, hlocs] at hW9; exact hW9
  clear hH hlocs
  have at5 : ∀ (n9 : Nat) (k : Nat) (hf9 : (a.1 14 - 1 - a.1 13 - k) < n9) (hk : k ≤ a.1 14 - 1 - a.1 13) (H : Heap) (locs : List Loc) (ls : Array Slot) (hP : va_P D vwCl [(q 2, .inr (2, [.ref (q 20), .ref (q 21), .int (nI ((a_askS a k).1)), .int (nI (a.1 14) - 1), .int (nI (a.1 13))])), (q 20, .inl (cZ, 300, .inl (a.2 2))), (q 21, .inl (cI, 300, .inl ((a_askS a k).2.1)))] H) (hD : va_D A [(q 2, .inr (2, [.ref (q 20), .ref (q 21), .int (nI ((a_askS a k).1)), .int (nI (a.1 14) - 1), .int (nI (a.1 13))])), (q 20, .inl (cZ, 300, .inl (a.2 2))), (q 21, .inl (cI, 300, .inl ((a_askS a k).2.1)))]) (hS : va_S A s.heap H locs) (hl : lv_has ls 3 [(0, .ref (q 2)), (1, .int (nI (a.1 11))), (2, .int (nI (a.1 13 + k)))]), W p l e ({ frames := 2, cells := 0, slots := 0, locals := 41 } : Room) s m [.ref (q 2), .int (nI (a.1 11))].toArray below meth c H locs 0 0 (MQ below (va_Qv (fun (_ : Unit) => True) (kB D A (fun (_ : Unit) => SWa cI cZ q (a_ask a))) A) [.ref (q 2), .int (nI (a.1 11))].toArray s 0 0 A) (F0 m 5 ls []) := by
    intro n9
    induction n9 with
    | zero => intro k hf9 hk H locs ls hP hD hS hl; exact absurd hf9 (Nat.not_lt_zero _)
    | succ n9 ih9 =>
      intro k hf9 hk H locs ls hP hD hS hl
      refine lv_iload_n hx hb dX2_askForMissing_5 rfl (lv_at hl 2 rfl) ?_
      refine lv_aload_n hx hb dX2_askForMissing_6 rfl (lv_at hl 0 rfl) ?_
      refine va_get (D := D) (ci := 2) (v := .int (nI (a.1 14) - 1)) (C := RX2) (T := TX2) (N := 5) hx hb hts hinX2 hown hK hP 0 rfl rfl 3 (by decide) (hts _ (List.mem_of_getElem? (i := 2) rfl)) (fun _ h9 => h9) rfl dX2_askForMissing_7 ?_
      refine lv_icmp_ge (tgt := 39) hx hb dX2_askForMissing_10 (by decide) (fun c_10 => ?_) (fun c_10 => ?_)
      · -- c_10 taken
        refine lv_aload_n hx hb dX2_askForMissing_39 rfl (lv_at hl 0 rfl) ?_
        refine lv_aload_n hx hb dX2_askForMissing_40 rfl (lv_at hl 0 rfl) ?_
        refine va_get (D := D) (ci := 2) (v := .int (nI (a.1 13))) (C := RX2) (T := TX2) (N := 5) hx hb hts hinX2 hown hK hP 0 rfl rfl 4 (by decide) (hts _ (List.mem_of_getElem? (i := 1) rfl)) (fun _ h9 => h9) rfl dX2_askForMissing_41 ?_
        refine lv_aload_n hx hb dX2_askForMissing_44 rfl (lv_at hl 0 rfl) ?_
        refine va_get (D := D) (ci := 2) (v := .int (nI (a.1 14) - 1)) (C := RX2) (T := TX2) (N := 5) hx hb hts hinX2 hown hK hP 0 rfl rfl 3 (by decide) (hts _ (List.mem_of_getElem? (i := 2) rfl)) (fun _ h9 => h9) rfl dX2_askForMissing_45 ?_
        refine va_mmax hx hb (hml.trans hl.1.symm) hown (hts _ (List.mem_of_getElem? (i := 3) rfl)) (hts _ (List.mem_of_getElem? (i := 4) rfl)) (hts _ (List.mem_of_getElem? (i := 5) rfl)) (hts _ (List.mem_of_getElem? (i := 6) rfl)) (Nat.le_of_ble_eq_true rfl) (Nat.le_of_ble_eq_true rfl) (Nat.zero_le _) (Nat.zero_le _) dX2_askForMissing_48 ?_
        rw [show (if nI (a.1 13) < (nI (a.1 14) - 1) then (nI (a.1 14) - 1) else nI (a.1 13)) = nI (max (a.1 13) (a.1 14 - 1)) from k_maxl i14 (by omega)]
        refine va_put (D := D) (ci := 2) (v := .int (nI (max (a.1 13) (a.1 14 - 1)))) (ty := .int) (C := RX2) (T := TX2) (N := 5) hx hb hts hinX2 tyX2 tyX2_ok nmX2 hown hK hP hD hS 0 rfl rfl 4 (by decide) (hts _ (List.mem_of_getElem? (i := 1) rfl)) (fun _ h9 => h9) rfl (by decide +kernel) rfl rfl (Nat.le_of_ble_eq_true rfl) dX2_askForMissing_51 (fun H locs hP hD hS => ?_)
        have hP : va_P D vwCl [(q 2, .inr (2, [.ref (q 20), .ref (q 21), .int (nI ((a_askS a k).1)), .int (nI (a.1 14) - 1), .int (nI (max (a.1 13) (a.1 14 - 1)))])), (q 20, .inl (cZ, 300, .inl (a.2 2))), (q 21, .inl (cI, 300, .inl ((a_askS a k).2.1)))] H := hP
        have hD : va_D A [(q 2, .inr (2, [.ref (q 20), .ref (q 21), .int (nI ((a_askS a k).1)), .int (nI (a.1 14) - 1), .int (nI (max (a.1 13) (a.1 14 - 1)))])), (q 20, .inl (cZ, 300, .inl (a.2 2))), (q 21, .inl (cI, 300, .inl ((a_askS a k).2.1)))] := hD
        have c_10 := (k_hle i14 (by omega)).mp c_10
        obtain rfl : k = a.1 14 - 1 - a.1 13 := by omega
        exact k_vret hx hb hr hlk () trivial hP hD hS dX2_askForMissing_54
      · -- c_10 not taken
        refine lv_aload_n hx hb dX2_askForMissing_13 rfl (lv_at hl 0 rfl) ?_
        refine lv_iload_n hx hb dX2_askForMissing_14 rfl (lv_at hl 2 rfl) ?_
        refine k_callVi (n := 1) (wr := []) (As := [.int (nI (a.1 13 + k))]) (rest := []) hfix hN hK hP hD hS hA hl.1 (c_X2_holds l D cI cZ q (a_askK a k) (a.1 13 + k) (by have := (k_hlt i14 (by omega)).mp (Int32.not_le.mp c_10); omega)) gX2_askForMissing_X2_holds rfl (by decide +kernel) rfl ⟨Nat.le_of_ble_eq_true rfl, Nat.le_of_ble_eq_true rfl⟩ [0, 1, 2] [] rfl rfl (by decide) (by decide) (by decide) 0 rfl rfl rfl (Nat.le_of_ble_eq_true rfl) ⟨Nat.zero_le _, Nat.zero_le _⟩ dX2_askForMissing_15 (fun r_15 u H locs hw_15 hP hD hS => ?_)
        have hP : va_P D vwCl [(q 2, .inr (2, [.ref (q 20), .ref (q 21), .int (nI ((a_askS a k).1)), .int (nI (a.1 14) - 1), .int (nI (a.1 13))])), (q 20, .inl (cZ, 300, .inl (a.2 2))), (q 21, .inl (cI, 300, .inl ((a_askS a k).2.1)))] H := hP.sub [0, 1, 2] rfl
        have hD : va_D A [(q 2, .inr (2, [.ref (q 20), .ref (q 21), .int (nI ((a_askS a k).1)), .int (nI (a.1 14) - 1), .int (nI (a.1 13))])), (q 20, .inl (cZ, 300, .inl (a.2 2))), (q 21, .inl (cI, 300, .inl ((a_askS a k).2.1)))] := hD.sub [0, 1, 2] (by decide) rfl
        by_cases e_15 : (a_askK a k).2 2 (a.1 13 + k) = 0
        · rw [if_pos e_15] at hw_15
          obtain rfl : r_15 = nI 0 := hw_15
          refine k_if_ne (tgt := 33) hx hb (by decide) dX2_askForMissing_18 (by decide) (fun q => absurd q (by decide)) (fun _ => ?_)
          refine lv_iload_n hx hb dX2_askForMissing_21 rfl (lv_at hl 2 rfl) ?_
          refine lv_iconst (v := nI 3) hx hb dX2_askForMissing_22 (by decide) ?_
          refine k_idiv hx hb (by omega) (by decide) (by decide) dX2_askForMissing_23 ?_
          refine lv_iload_n hx hb dX2_askForMissing_24 rfl (lv_at hl 1 rfl) ?_
          refine k_icmp_lt (tgt := 33) hx hb (by omega) (by omega) dX2_askForMissing_25 (by decide) (fun c_25 => ?_) (fun c_25 => ?_)
          · -- c_25 taken
            refine lv_iinc (v := nI (a.1 13 + k + 1)) (lv' := [(2, .int (nI (a.1 13 + k + 1))), (0, .ref (q 2)), (1, .int (nI (a.1 11)))]) hx hb dX2_askForMissing_33 hl (k := 2) rfl (nI_add (a.1 13 + k) 1) (by decide) rfl (fun ls hl => ?_)
            refine lv_goto (tgt := 5) hx hb dX2_askForMissing_36 (by decide) ?_
            have h9 := (k_hlt i14 (by omega)).mp (Int32.not_le.mp c_10)
            exact ih9 (k + 1) (by omega) (by have := (k_hlt i14 (by omega)).mp (Int32.not_le.mp c_10); omega) H locs ls (by rw [a_askS_f (a := a) (k := k) (fun h => by have := h.2; omega)]; exact hP) (by rw [a_askS_f (a := a) (k := k) (fun h => by have := h.2; omega)]; exact hD) hS (lv_sub hl [1, 2, 0] rfl)
          · -- c_25 not taken
            refine lv_aload_n hx hb dX2_askForMissing_28 rfl (lv_at hl 0 rfl) ?_
            refine lv_iload_n hx hb dX2_askForMissing_29 rfl (lv_at hl 2 rfl) ?_
            refine k_callVv (n := 1) (wr := []) (As := [.int (nI (a.1 13 + k))]) (rest := []) hfix hN hK hP hD hS hA hl.1 (c_X2_ask l D cI cZ q (a_askK a k) (a.1 13 + k) (by have := (k_hlt i14 (by omega)).mp (Int32.not_le.mp c_10); have h9 := askS_le (had := a.2 2) (nx := a.1 11) (lu := a.1 13) (a.1 8, a.2 4, a.2 3) k; show (a_askS a k).1 < 300; show (askS (a.2 2) (a.1 11) (a.1 13) k (a.1 8, a.2 4, a.2 3)).1 < 300; dsimp only at h9; omega)) gX2_askForMissing_X2_ask rfl (by decide +kernel) rfl ⟨Nat.le_of_ble_eq_true rfl, Nat.le_of_ble_eq_true rfl⟩ [0, 1, 2] [] rfl rfl (by decide) (by decide) (by decide) 0 rfl rfl rfl (Nat.le_of_ble_eq_true rfl) ⟨Nat.zero_le _, Nat.zero_le _⟩ dX2_askForMissing_30 (fun u H locs hw_30 hP hD hS => ?_)
            have hP : va_P D vwCl [(q 2, .inr (2, [.ref (q 20), .ref (q 21), .int (nI ((a_askS a k).1 + 1)), .int (nI (a.1 14) - 1), .int (nI (a.1 13))])), (q 20, .inl (cZ, 300, .inl (a.2 2))), (q 21, .inl (cI, 300, .inl (upd (a_askS a k).2.1 (a_askS a k).1 (nI (a.1 13 + k)))))] H := hP.sub [0, 1, 2] rfl
            have hD : va_D A [(q 2, .inr (2, [.ref (q 20), .ref (q 21), .int (nI ((a_askS a k).1 + 1)), .int (nI (a.1 14) - 1), .int (nI (a.1 13))])), (q 20, .inl (cZ, 300, .inl (a.2 2))), (q 21, .inl (cI, 300, .inl (upd (a_askS a k).2.1 (a_askS a k).1 (nI (a.1 13 + k)))))] := hD.sub [0, 1, 2] (by decide) rfl
            refine lv_iinc (v := nI (a.1 13 + k + 1)) (lv' := [(2, .int (nI (a.1 13 + k + 1))), (0, .ref (q 2)), (1, .int (nI (a.1 11)))]) hx hb dX2_askForMissing_33 hl (k := 2) rfl (nI_add (a.1 13 + k) 1) (by decide) rfl (fun ls hl => ?_)
            refine lv_goto (tgt := 5) hx hb dX2_askForMissing_36 (by decide) ?_
            have h9 := (k_hlt i14 (by omega)).mp (Int32.not_le.mp c_10)
            exact ih9 (k + 1) (by omega) (by have := (k_hlt i14 (by omega)).mp (Int32.not_le.mp c_10); omega) H locs ls (by rw [a_askS_t (a := a) (k := k) ⟨e_15, c_25⟩]; exact hP) (by rw [a_askS_t (a := a) (k := k) ⟨e_15, c_25⟩]; exact hD) hS (lv_sub hl [1, 2, 0] rfl)
        · rw [if_neg e_15] at hw_15
          obtain rfl : r_15 = nI 1 := hw_15
          refine k_if_ne (tgt := 33) hx hb (by decide) dX2_askForMissing_18 (by decide) (fun _ => ?_) (fun q => absurd q (by decide))
          refine lv_iinc (v := nI (a.1 13 + k + 1)) (lv' := [(2, .int (nI (a.1 13 + k + 1))), (0, .ref (q 2)), (1, .int (nI (a.1 11)))]) hx hb dX2_askForMissing_33 hl (k := 2) rfl (nI_add (a.1 13 + k) 1) (by decide) rfl (fun ls hl => ?_)
          refine lv_goto (tgt := 5) hx hb dX2_askForMissing_36 (by decide) ?_
          have h9 := (k_hlt i14 (by omega)).mp (Int32.not_le.mp c_10)
          exact ih9 (k + 1) (by omega) (by have := (k_hlt i14 (by omega)).mp (Int32.not_le.mp c_10); omega) H locs ls (by rw [a_askS_f (a := a) (k := k) (fun h => e_15 h.1)]; exact hP) (by rw [a_askS_f (a := a) (k := k) (fun h => e_15 h.1)]; exact hD) hS (lv_sub hl [1, 2, 0] rfl)
  refine lv_aload_n hx hb dX2_askForMissing_0 rfl (lv_at hl 0 rfl) ?_
  refine va_get (D := D) (ci := 2) (v := .int (nI (a.1 13))) (C := RX2) (T := TX2) (N := 5) hx hb hts hinX2 hown hK hP 0 rfl rfl 4 (by decide) (hts _ (List.mem_of_getElem? (i := 1) rfl)) (fun _ h9 => h9) rfl dX2_askForMissing_1 ?_
  refine lv_istore_n (lv' := [(2, .int (nI (a.1 13))), (0, .ref (q 2)), (1, .int (nI (a.1 11)))]) hx hb dX2_askForMissing_4 rfl hl (by decide) rfl (fun ls hl => ?_)
  exact at5 _ 0 (Nat.lt_succ_self _) (Nat.zero_le _) H locs ls hP hD hS (lv_sub hl [1, 2, 0] rfl)
end
section
/-! the film -/
set_option maxHeartbeats 4000000 in
set_option maxRecDepth 100000 in
theorem c_X0_canBegin (l : Launch) (D : va_G) (cI cZ : ClassId) (q : Nat → Nat) (a : AS) (b9 t9 : Int32) : kMi l yX0_canBegin wsX0_canBegin 1 22 D (TY cI cZ) [.ref (q 3)] [(q 3, .inr (0, [.ref (q 2), .ref (q 31), .int (nI (a.1 11)), .int b9, .int t9, .int (nI (a.1 15))])), (q 31, .inl (cI, 100, .inl (a.2 5))), (q 2, .inr (2, [.ref (q 20), .ref (q 21), .int (nI (a.1 8)), .int (nI (a.1 14) - 1), .int (nI (a.1 13))])), (q 20, .inl (cZ, 300, .inl (a.2 2))), (q 21, .inl (cI, 300, .inl (a.2 4)))] (fun (r : Int32) (_ : Unit) => r = (if whl (a.2 2) 0 ∧ whl (a.2 2) 1 ∧ whl (a.2 2) 2 then nI 1 else nI 0)) (fun (_ : Unit) => FWb cI q a b9 t9 ++ SWa cI cZ q a) := by
  intro sz
  refine k_in (Qc := fun A => va_Qi (fun (r : Int32) (_ : Unit) => r = (if whl (a.2 2) 0 ∧ whl (a.2 2) 1 ∧ whl (a.2 2) 2 then nI 1 else nI 0)) (kB D A (fun (_ : Unit) => FWb cI q a b9 t9 ++ SWa cI cZ q a)) A) (cc := cX0_canBegin) (maxL := 2) (ret := (some .boolean)) (by decide) rfl (Nat.le_of_ble_eq_true rfl) ?_
  intro p e s m below meth c A ls hfix hr hlk hN hP hK hD hA hS hl
  have hfix : CallFix p m c cX0_canBegin 2 s [.ref (q 3)].toArray wsX0_canBegin RX0 := hfix
  have hl : lv_has ls 2 [(0, .ref (q 3))] := hl
  obtain ⟨hx, hb, hml, hown, hts⟩ := id hfix
  have hinX0 : ∀ w ∈ wsX00, w ∈ wsX0_canBegin := fun _ h => List.mem_cons_of_mem _ (List.mem_append_left _ (List.mem_append_right _ h))
  have hP : va_P D vwCl [(q 3, .inr (0, [.ref (q 2), .ref (q 31), .int (nI (a.1 11)), .int b9, .int t9, .int (nI (a.1 15))])), (q 31, .inl (cI, 100, .inl (a.2 5))), (q 2, .inr (2, [.ref (q 20), .ref (q 21), .int (nI (a.1 8)), .int (nI (a.1 14) - 1), .int (nI (a.1 13))])), (q 20, .inl (cZ, 300, .inl (a.2 2))), (q 21, .inl (cI, 300, .inl (a.2 4)))] s.heap := hP
  have hD : va_D A [(q 3, .inr (0, [.ref (q 2), .ref (q 31), .int (nI (a.1 11)), .int b9, .int t9, .int (nI (a.1 15))])), (q 31, .inl (cI, 100, .inl (a.2 5))), (q 2, .inr (2, [.ref (q 20), .ref (q 21), .int (nI (a.1 8)), .int (nI (a.1 14) - 1), .int (nI (a.1 13))])), (q 20, .inl (cZ, 300, .inl (a.2 2))), (q 21, .inl (cI, 300, .inl (a.2 4)))] := hD
  have hS : ∃ (H : Heap) (locs : List Loc), H = s.heap ∧ locs = [] ∧ va_S A s.heap H locs := ⟨_, _, rfl, rfl, hS⟩
  obtain ⟨H, locs, hH, hlocs, hS⟩ := hS
  rw [← hH] at hP
  suffices hW9 : W p l e ({ frames := 1, cells := 0, slots := 0, locals := 22 } : Room) s m [.ref (q 3)].toArray below meth c H locs 0 0 (MQ below (va_Qi (fun (r : Int32) (_ : Unit) => r = (if whl (a.2 2) 0 ∧ whl (a.2 2) 1 ∧ whl (a.2 2) 2 then nI 1 else nI 0)) (kB D A (fun (_ : Unit) => FWb cI q a b9 t9 ++ SWa cI cZ q a)) A) [.ref (q 3)].toArray s 0 0 A) (F0 m 0 ls []) by rw [hH, hlocs] at hW9; exact hW9
  clear hH hlocs
  have at2 : ∀ (n9 : Nat) (i : Nat) (hf9 : (3 - i) < n9) (hi : i ≤ 3) (hj : ∀ j, j < i → whl (a.2 2) j) (H : Heap) (locs : List Loc) (ls : Array Slot) (hP : va_P D vwCl [(q 3, .inr (0, [.ref (q 2), .ref (q 31), .int (nI (a.1 11)), .int b9, .int t9, .int (nI (a.1 15))])), (q 31, .inl (cI, 100, .inl (a.2 5))), (q 2, .inr (2, [.ref (q 20), .ref (q 21), .int (nI (a.1 8)), .int (nI (a.1 14) - 1), .int (nI (a.1 13))])), (q 20, .inl (cZ, 300, .inl (a.2 2))), (q 21, .inl (cI, 300, .inl (a.2 4)))] H) (hD : va_D A [(q 3, .inr (0, [.ref (q 2), .ref (q 31), .int (nI (a.1 11)), .int b9, .int t9, .int (nI (a.1 15))])), (q 31, .inl (cI, 100, .inl (a.2 5))), (q 2, .inr (2, [.ref (q 20), .ref (q 21), .int (nI (a.1 8)), .int (nI (a.1 14) - 1), .int (nI (a.1 13))])), (q 20, .inl (cZ, 300, .inl (a.2 2))), (q 21, .inl (cI, 300, .inl (a.2 4)))]) (hS : va_S A s.heap H locs) (hl : lv_has ls 2 [(0, .ref (q 3)), (1, .int (nI i))]), W p l e ({ frames := 1, cells := 0, slots := 0, locals := 22 } : Room) s m [.ref (q 3)].toArray below meth c H locs 0 0 (MQ below (va_Qi (fun (r : Int32) (_ : Unit) => r = (if whl (a.2 2) 0 ∧ whl (a.2 2) 1 ∧ whl (a.2 2) 2 then nI 1 else nI 0)) (kB D A (fun (_ : Unit) => FWb cI q a b9 t9 ++ SWa cI cZ q a)) A) [.ref (q 3)].toArray s 0 0 A) (F0 m 2 ls []) := by
    intro n9
    induction n9 with
    | zero => intro i hf9 hi hj H locs ls hP hD hS hl; exact absurd hf9 (Nat.not_lt_zero _)
    | succ n9 ih9 =>
      intro i hf9 hi hj H locs ls hP hD hS hl
      refine lv_iload_n hx hb dX0_canBegin_2 rfl (lv_at hl 1 rfl) ?_
      refine lv_iconst (v := nI 3) hx hb dX0_canBegin_3 (by decide) ?_
      refine k_icmp_ge (tgt := 26) hx hb (by omega) (by omega) dX0_canBegin_4 (by decide) (fun c_4 => ?_) (fun c_4 => ?_)
      · -- c_4 taken
        refine lv_iconst (v := nI 1) hx hb dX0_canBegin_26 (by decide) ?_
        exact k_iret (v := nI 1) hx hb hr hlk (by decide) () ((if_pos ⟨hj 0 (by omega), hj 1 (by omega), hj 2 (by omega)⟩).symm) hP hD hS dX0_canBegin_27
      · -- c_4 not taken
        refine lv_aload_n hx hb dX0_canBegin_7 rfl (lv_at hl 0 rfl) ?_
        refine va_get (D := D) (ci := 0) (v := .ref (q 2)) (C := RX0) (T := TX0) (N := 6) hx hb hts hinX0 hown hK hP 0 rfl rfl 0 (by decide) (hts _ (List.mem_of_getElem? (i := 1) rfl)) (fun _ h9 => h9) rfl dX0_canBegin_8 ?_
        refine lv_iload_n hx hb dX0_canBegin_11 rfl (lv_at hl 1 rfl) ?_
        refine k_callVi (n := 1) (wr := [(q 3, .inr (0, [.ref (q 2), .ref (q 31), .int (nI (a.1 11)), .int b9, .int t9, .int (nI (a.1 15))])), (q 31, .inl (cI, 100, .inl (a.2 5)))]) (As := [.int (nI i)]) (rest := []) hfix hN hK hP hD hS hA hl.1 (c_X2_holdsFrame l D cI cZ q a i (by omega)) gX0_canBegin_X2_holdsFrame rfl (by decide +kernel) rfl ⟨Nat.le_of_ble_eq_true rfl, Nat.le_of_ble_eq_true rfl⟩ [2, 3, 4] [0, 1] rfl rfl (by decide) (by decide) (by decide) 2 rfl rfl rfl (Nat.le_of_ble_eq_true rfl) ⟨Nat.zero_le _, Nat.zero_le _⟩ dX0_canBegin_12 (fun r_12 u H locs hw_12 hP hD hS => ?_)
        have hP : va_P D vwCl [(q 3, .inr (0, [.ref (q 2), .ref (q 31), .int (nI (a.1 11)), .int b9, .int t9, .int (nI (a.1 15))])), (q 31, .inl (cI, 100, .inl (a.2 5))), (q 2, .inr (2, [.ref (q 20), .ref (q 21), .int (nI (a.1 8)), .int (nI (a.1 14) - 1), .int (nI (a.1 13))])), (q 20, .inl (cZ, 300, .inl (a.2 2))), (q 21, .inl (cI, 300, .inl (a.2 4)))] H := hP.sub [0, 1, 2, 3, 4] rfl
        have hD : va_D A [(q 3, .inr (0, [.ref (q 2), .ref (q 31), .int (nI (a.1 11)), .int b9, .int t9, .int (nI (a.1 15))])), (q 31, .inl (cI, 100, .inl (a.2 5))), (q 2, .inr (2, [.ref (q 20), .ref (q 21), .int (nI (a.1 8)), .int (nI (a.1 14) - 1), .int (nI (a.1 13))])), (q 20, .inl (cZ, 300, .inl (a.2 2))), (q 21, .inl (cI, 300, .inl (a.2 4)))] := hD.sub [0, 1, 2, 3, 4] (by decide) rfl
        by_cases e_12 : whl (a.2 2) i
        · rw [if_pos e_12] at hw_12
          obtain rfl : r_12 = nI 1 := hw_12
          refine k_if_ne (tgt := 20) hx hb (by decide) dX0_canBegin_15 (by decide) (fun _ => ?_) (fun q => absurd q (by decide))
          refine lv_iinc (v := nI (i + 1)) (lv' := [(1, .int (nI (i + 1))), (0, .ref (q 3))]) hx hb dX0_canBegin_20 hl (k := 1) rfl (nI_add i 1) (by decide) rfl (fun ls hl => ?_)
          refine lv_goto (tgt := 2) hx hb dX0_canBegin_23 (by decide) ?_
          exact ih9 (i + 1) (by omega) (by omega) (lt_s hj e_12) H locs ls hP hD hS (lv_sub hl [1, 0] rfl)
        · rw [if_neg e_12] at hw_12
          obtain rfl : r_12 = nI 0 := hw_12
          refine k_if_ne (tgt := 20) hx hb (by decide) dX0_canBegin_15 (by decide) (fun q => absurd q (by decide)) (fun _ => ?_)
          refine lv_iconst (v := nI 0) hx hb dX0_canBegin_18 (by decide) ?_
          exact k_iret (v := nI 0) hx hb hr hlk (by decide) () ((if_neg (fun h => e_12 (by rcases (show i = 0 ∨ i = 1 ∨ i = 2 by omega) with rfl | rfl | rfl; exact h.1; exact h.2.1; exact h.2.2))).symm) hP hD hS dX0_canBegin_19
  refine lv_iconst (v := nI 0) hx hb dX0_canBegin_0 (by decide) ?_
  refine lv_istore_n (lv' := [(1, .int (nI 0)), (0, .ref (q 3))]) hx hb dX0_canBegin_1 rfl hl (by decide) rfl (fun ls hl => ?_)
  exact at2 _ 0 (Nat.lt_succ_self _) (by omega) (fun j h => absurd h (Nat.not_lt_zero j)) H locs ls hP hD hS (lv_sub hl [1, 0] rfl)
set_option maxHeartbeats 4000000 in
set_option maxRecDepth 100000 in
theorem c_X0_wasShown (l : Launch) (D : va_G) (cI cZ : ClassId) (q : Nat → Nat) (a : AS) (b9 t9 : Int32) (f : Nat) (hf : f < 100) : kMi l yX0_wasShown wsX0_wasShown 1 20 D (TY cI cZ) [.ref (q 3), .int (nI f)] [(q 3, .inr (0, [.ref (q 2), .ref (q 31), .int (nI (a.1 11)), .int b9, .int t9, .int (nI (a.1 15))])), (q 31, .inl (cI, 100, .inl (a.2 5)))] (fun (r : Int32) (_ : Unit) => r = (if a.2 5 f = nI 1 then nI 1 else nI 0)) (fun (_ : Unit) => FWb cI q a b9 t9) := by
  intro sz
  refine k_in (Qc := fun A => va_Qi (fun (r : Int32) (_ : Unit) => r = (if a.2 5 f = nI 1 then nI 1 else nI 0)) (kB D A (fun (_ : Unit) => FWb cI q a b9 t9)) A) (cc := cX0_wasShown) (maxL := 2) (ret := (some .boolean)) (by decide) rfl (Nat.le_of_ble_eq_true rfl) ?_
  intro p e s m below meth c A ls hfix hr hlk hN hP hK hD hA hS hl
  have hfix : CallFix p m c cX0_wasShown 2 s [.ref (q 3), .int (nI f)].toArray wsX0_wasShown RX0 := hfix
  have hl : lv_has ls 2 [(0, .ref (q 3)), (1, .int (nI f))] := hl
  obtain ⟨hx, hb, hml, hown, hts⟩ := id hfix
  have hinX0 : ∀ w ∈ wsX00, w ∈ wsX0_wasShown := fun _ h => List.mem_cons_of_mem _ (List.mem_append_right _ h)
  have hP : va_P D vwCl [(q 3, .inr (0, [.ref (q 2), .ref (q 31), .int (nI (a.1 11)), .int b9, .int t9, .int (nI (a.1 15))])), (q 31, .inl (cI, 100, .inl (a.2 5)))] s.heap := hP
  have hD : va_D A [(q 3, .inr (0, [.ref (q 2), .ref (q 31), .int (nI (a.1 11)), .int b9, .int t9, .int (nI (a.1 15))])), (q 31, .inl (cI, 100, .inl (a.2 5)))] := hD
  have hS : ∃ (H : Heap) (locs : List Loc), H = s.heap ∧ locs = [] ∧ va_S A s.heap H locs := ⟨_, _, rfl, rfl, hS⟩
  obtain ⟨H, locs, hH, hlocs, hS⟩ := hS
  rw [← hH] at hP
  suffices hW9 : W p l e ({ frames := 1, cells := 0, slots := 0, locals := 20 } : Room) s m [.ref (q 3), .int (nI f)].toArray below meth c H locs 0 0 (MQ below (va_Qi (fun (r : Int32) (_ : Unit) => r = (if a.2 5 f = nI 1 then nI 1 else nI 0)) (kB D A (fun (_ : Unit) => FWb cI q a b9 t9)) A) [.ref (q 3), .int (nI f)].toArray s 0 0 A) (F0 m 0 ls []) by rw [hH, hlocs] at hW9; exact hW9
  clear hH hlocs
  refine lv_iload_n hx hb dX0_wasShown_0 rfl (lv_at hl 1 rfl) ?_
  refine k_callNi (n := 1) (As := [.int (nI f)]) (rest := []) hfix hN hK hP hD hS hA hl.1 (c_X3_isFrame l D cI cZ (nI f)) (fun _ => rfl) gX0_wasShown_X3_isFrame_n50 rfl hN.m50 (hts _ (List.mem_of_getElem? (i := 3) rfl)) (hts _ (List.mem_of_getElem? (i := 2) rfl)) (by decide +kernel) rfl ⟨Nat.le_of_ble_eq_true rfl, Nat.le_of_ble_eq_true rfl⟩ [0, 1] rfl (by decide) rfl (Nat.le_of_ble_eq_true rfl) ⟨Nat.zero_le _, Nat.zero_le _⟩ dX0_wasShown_1 (fun r_1 u H locs hw_1 hP hD hS => ?_)
  have e_1 : (inR (nI f) 100) := (nI_inR (by decide) hf)
  rw [if_pos e_1] at hw_1
  obtain rfl : r_1 = nI 1 := hw_1
  refine k_if_eq (tgt := 21) hx hb (by decide) dX0_wasShown_4 (by decide) (fun q => absurd q (by decide)) (fun _ => ?_)
  refine lv_aload_n hx hb dX0_wasShown_7 rfl (lv_at hl 0 rfl) ?_
  refine va_get (D := D) (ci := 0) (v := .ref (q 31)) (C := RX0) (T := TX0) (N := 6) hx hb hts hinX0 hown hK hP 0 rfl rfl 1 (by decide) (hts _ (List.mem_of_getElem? (i := 1) rfl)) (fun _ h9 => h9) rfl dX0_wasShown_8 ?_
  refine lv_iload_n hx hb dX0_wasShown_11 rfl (lv_at hl 1 rfl) ?_
  refine k_iald hx hb hK hP 1 0 rfl rfl (by omega) (Nat.le_of_ble_eq_true rfl) dX0_wasShown_12 ?_
  refine lv_iconst (v := nI 1) hx hb dX0_wasShown_13 (by decide) ?_
  refine lv_icmp_ne (tgt := 21) hx hb dX0_wasShown_14 (by decide) (fun c_14 => ?_) (fun c_14 => ?_)
  · -- c_14 taken
    refine lv_iconst (v := nI 0) hx hb dX0_wasShown_21 (by decide) ?_
    exact k_iret (v := nI 0) hx hb hr hlk (by decide) () ((if_neg c_14).symm) hP hD hS dX0_wasShown_22
  · -- c_14 not taken
    refine lv_iconst (v := nI 1) hx hb dX0_wasShown_17 (by decide) ?_
    refine lv_goto (tgt := 22) hx hb dX0_wasShown_18 (by decide) ?_
    exact k_iret (v := nI 1) hx hb hr hlk (by decide) () ((if_pos c_14).symm) hP hD hS dX0_wasShown_22
set_option maxHeartbeats 4000000 in
set_option maxRecDepth 100000 in
theorem c_X0_isWholeIfAny0 (l : Launch) (D : va_G) (cI cZ : ClassId) (q : Nat → Nat) (a : AS) (b9 t9 : Int32) : kMi l yX0_isWholeIfAny wsX0_isWholeIfAny 1 22 D (TY cI cZ) [.ref (q 3), .int (-1)] [(q 3, .inr (0, [.ref (q 2), .ref (q 31), .int (nI (a.1 11)), .int b9, .int t9, .int (nI (a.1 15))])), (q 31, .inl (cI, 100, .inl (a.2 5))), (q 2, .inr (2, [.ref (q 20), .ref (q 21), .int (nI (a.1 8)), .int (nI (a.1 14) - 1), .int (nI (a.1 13))])), (q 20, .inl (cZ, 300, .inl (a.2 2))), (q 21, .inl (cI, 300, .inl (a.2 4)))] (fun (r : Int32) (_ : Unit) => r = nI 1) (fun (_ : Unit) => FWb cI q a b9 t9 ++ SWa cI cZ q a) := by
  intro sz
  refine k_in (Qc := fun A => va_Qi (fun (r : Int32) (_ : Unit) => r = nI 1) (kB D A (fun (_ : Unit) => FWb cI q a b9 t9 ++ SWa cI cZ q a)) A) (cc := cX0_isWholeIfAny) (maxL := 2) (ret := (some .boolean)) (by decide) rfl (Nat.le_of_ble_eq_true rfl) ?_
  intro p e s m below meth c A ls hfix hr hlk hN hP hK hD hA hS hl
  have hfix : CallFix p m c cX0_isWholeIfAny 2 s [.ref (q 3), .int (-1)].toArray wsX0_isWholeIfAny RX0 := hfix
  have hl : lv_has ls 2 [(0, .ref (q 3)), (1, .int (-1))] := hl
  obtain ⟨hx, hb, hml, hown, hts⟩ := id hfix
  have hP : va_P D vwCl [(q 3, .inr (0, [.ref (q 2), .ref (q 31), .int (nI (a.1 11)), .int b9, .int t9, .int (nI (a.1 15))])), (q 31, .inl (cI, 100, .inl (a.2 5))), (q 2, .inr (2, [.ref (q 20), .ref (q 21), .int (nI (a.1 8)), .int (nI (a.1 14) - 1), .int (nI (a.1 13))])), (q 20, .inl (cZ, 300, .inl (a.2 2))), (q 21, .inl (cI, 300, .inl (a.2 4)))] s.heap := hP
  have hD : va_D A [(q 3, .inr (0, [.ref (q 2), .ref (q 31), .int (nI (a.1 11)), .int b9, .int t9, .int (nI (a.1 15))])), (q 31, .inl (cI, 100, .inl (a.2 5))), (q 2, .inr (2, [.ref (q 20), .ref (q 21), .int (nI (a.1 8)), .int (nI (a.1 14) - 1), .int (nI (a.1 13))])), (q 20, .inl (cZ, 300, .inl (a.2 2))), (q 21, .inl (cI, 300, .inl (a.2 4)))] := hD
  have hS : ∃ (H : Heap) (locs : List Loc), H = s.heap ∧ locs = [] ∧ va_S A s.heap H locs := ⟨_, _, rfl, rfl, hS⟩
  obtain ⟨H, locs, hH, hlocs, hS⟩ := hS
  rw [← hH] at hP
  suffices hW9 : W p l e ({ frames := 1, cells := 0, slots := 0, locals := 22 } : Room) s m [.ref (q 3), .int (-1)].toArray below meth c H locs 0 0 (MQ below (va_Qi (fun (r : Int32) (_ : Unit) => r = nI 1) (kB D A (fun (_ : Unit) => FWb cI q a b9 t9 ++ SWa cI cZ q a)) A) [.ref (q 3), .int (-1)].toArray s 0 0 A) (F0 m 0 ls []) by rw [hH, hlocs] at hW9; exact hW9
  clear hH hlocs
  refine lv_iload_n hx hb dX0_isWholeIfAny_0 rfl (lv_at hl 1 rfl) ?_
  refine lv_iconst (v := (-1)) hx hb dX0_isWholeIfAny_1 (by decide) ?_
  refine lv_icmp_eq (tgt := 16) hx hb dX0_isWholeIfAny_2 (by decide) (fun c_2 => ?_) (fun c_2 => absurd c_2 (fun h => h rfl))
  refine lv_iconst (v := nI 1) hx hb dX0_isWholeIfAny_16 (by decide) ?_
  refine lv_goto (tgt := 21) hx hb dX0_isWholeIfAny_17 (by decide) ?_
  exact k_iret (v := nI 1) hx hb hr hlk (by decide) () rfl hP hD hS dX0_isWholeIfAny_21
set_option maxHeartbeats 4000000 in
set_option maxRecDepth 100000 in
theorem c_X0_isWholeIfAny (l : Launch) (D : va_G) (cI cZ : ClassId) (q : Nat → Nat) (a : AS) (b9 t9 : Int32) (f : Nat) (hf : f < 100) : kMi l yX0_isWholeIfAny wsX0_isWholeIfAny 1 22 D (TY cI cZ) [.ref (q 3), .int (nI f)] [(q 3, .inr (0, [.ref (q 2), .ref (q 31), .int (nI (a.1 11)), .int b9, .int t9, .int (nI (a.1 15))])), (q 31, .inl (cI, 100, .inl (a.2 5))), (q 2, .inr (2, [.ref (q 20), .ref (q 21), .int (nI (a.1 8)), .int (nI (a.1 14) - 1), .int (nI (a.1 13))])), (q 20, .inl (cZ, 300, .inl (a.2 2))), (q 21, .inl (cI, 300, .inl (a.2 4)))] (fun (r : Int32) (_ : Unit) => r = (if whl (a.2 2) f then nI 1 else nI 0)) (fun (_ : Unit) => FWb cI q a b9 t9 ++ SWa cI cZ q a) := by
  intro sz
  refine k_in (Qc := fun A => va_Qi (fun (r : Int32) (_ : Unit) => r = (if whl (a.2 2) f then nI 1 else nI 0)) (kB D A (fun (_ : Unit) => FWb cI q a b9 t9 ++ SWa cI cZ q a)) A) (cc := cX0_isWholeIfAny) (maxL := 2) (ret := (some .boolean)) (by decide) rfl (Nat.le_of_ble_eq_true rfl) ?_
  intro p e s m below meth c A ls hfix hr hlk hN hP hK hD hA hS hl
  have hfix : CallFix p m c cX0_isWholeIfAny 2 s [.ref (q 3), .int (nI f)].toArray wsX0_isWholeIfAny RX0 := hfix
  have hl : lv_has ls 2 [(0, .ref (q 3)), (1, .int (nI f))] := hl
  obtain ⟨hx, hb, hml, hown, hts⟩ := id hfix
  have hinX0 : ∀ w ∈ wsX00, w ∈ wsX0_isWholeIfAny := fun _ h => List.mem_cons_of_mem _ (List.mem_append_left _ (List.mem_append_right _ h))
  have hP : va_P D vwCl [(q 3, .inr (0, [.ref (q 2), .ref (q 31), .int (nI (a.1 11)), .int b9, .int t9, .int (nI (a.1 15))])), (q 31, .inl (cI, 100, .inl (a.2 5))), (q 2, .inr (2, [.ref (q 20), .ref (q 21), .int (nI (a.1 8)), .int (nI (a.1 14) - 1), .int (nI (a.1 13))])), (q 20, .inl (cZ, 300, .inl (a.2 2))), (q 21, .inl (cI, 300, .inl (a.2 4)))] s.heap := hP
  have hD : va_D A [(q 3, .inr (0, [.ref (q 2), .ref (q 31), .int (nI (a.1 11)), .int b9, .int t9, .int (nI (a.1 15))])), (q 31, .inl (cI, 100, .inl (a.2 5))), (q 2, .inr (2, [.ref (q 20), .ref (q 21), .int (nI (a.1 8)), .int (nI (a.1 14) - 1), .int (nI (a.1 13))])), (q 20, .inl (cZ, 300, .inl (a.2 2))), (q 21, .inl (cI, 300, .inl (a.2 4)))] := hD
  have hS : ∃ (H : Heap) (locs : List Loc), H = s.heap ∧ locs = [] ∧ va_S A s.heap H locs := ⟨_, _, rfl, rfl, hS⟩
  obtain ⟨H, locs, hH, hlocs, hS⟩ := hS
  rw [← hH] at hP
  suffices hW9 : W p l e ({ frames := 1, cells := 0, slots := 0, locals := 22 } : Room) s m [.ref (q 3), .int (nI f)].toArray below meth c H locs 0 0 (MQ below (va_Qi (fun (r : Int32) (_ : Unit) => r = (if whl (a.2 2) f then nI 1 else nI 0)) (kB D A (fun (_ : Unit) => FWb cI q a b9 t9 ++ SWa cI cZ q a)) A) [.ref (q 3), .int (nI f)].toArray s 0 0 A) (F0 m 0 ls []) by rw [hH, hlocs] at hW9; exact hW9
  clear hH hlocs
  refine lv_iload_n hx hb dX0_isWholeIfAny_0 rfl (lv_at hl 1 rfl) ?_
  refine lv_iconst (v := (-1)) hx hb dX0_isWholeIfAny_1 (by decide) ?_
  refine lv_icmp_eq (tgt := 16) hx hb dX0_isWholeIfAny_2 (by decide) (fun c_2 => absurd c_2 (nI_m1 (by omega))) (fun c_2 => ?_)
  refine lv_aload_n hx hb dX0_isWholeIfAny_5 rfl (lv_at hl 0 rfl) ?_
  refine va_get (D := D) (ci := 0) (v := .ref (q 2)) (C := RX0) (T := TX0) (N := 6) hx hb hts hinX0 hown hK hP 0 rfl rfl 0 (by decide) (hts _ (List.mem_of_getElem? (i := 1) rfl)) (fun _ h9 => h9) rfl dX0_isWholeIfAny_6 ?_
  refine lv_iload_n hx hb dX0_isWholeIfAny_9 rfl (lv_at hl 1 rfl) ?_
  refine k_callVi (n := 1) (wr := [(q 3, .inr (0, [.ref (q 2), .ref (q 31), .int (nI (a.1 11)), .int b9, .int t9, .int (nI (a.1 15))])), (q 31, .inl (cI, 100, .inl (a.2 5)))]) (As := [.int (nI f)]) (rest := []) hfix hN hK hP hD hS hA hl.1 (c_X2_holdsFrame l D cI cZ q a f (by omega)) gX0_isWholeIfAny_X2_holdsFrame rfl (by decide +kernel) rfl ⟨Nat.le_of_ble_eq_true rfl, Nat.le_of_ble_eq_true rfl⟩ [2, 3, 4] [0, 1] rfl rfl (by decide) (by decide) (by decide) 2 rfl rfl rfl (Nat.le_of_ble_eq_true rfl) ⟨Nat.zero_le _, Nat.zero_le _⟩ dX0_isWholeIfAny_10 (fun r_10 u H locs hw_10 hP hD hS => ?_)
  have hP : va_P D vwCl [(q 3, .inr (0, [.ref (q 2), .ref (q 31), .int (nI (a.1 11)), .int b9, .int t9, .int (nI (a.1 15))])), (q 31, .inl (cI, 100, .inl (a.2 5))), (q 2, .inr (2, [.ref (q 20), .ref (q 21), .int (nI (a.1 8)), .int (nI (a.1 14) - 1), .int (nI (a.1 13))])), (q 20, .inl (cZ, 300, .inl (a.2 2))), (q 21, .inl (cI, 300, .inl (a.2 4)))] H := hP.sub [0, 1, 2, 3, 4] rfl
  have hD : va_D A [(q 3, .inr (0, [.ref (q 2), .ref (q 31), .int (nI (a.1 11)), .int b9, .int t9, .int (nI (a.1 15))])), (q 31, .inl (cI, 100, .inl (a.2 5))), (q 2, .inr (2, [.ref (q 20), .ref (q 21), .int (nI (a.1 8)), .int (nI (a.1 14) - 1), .int (nI (a.1 13))])), (q 20, .inl (cZ, 300, .inl (a.2 2))), (q 21, .inl (cI, 300, .inl (a.2 4)))] := hD.sub [0, 1, 2, 3, 4] (by decide) rfl
  by_cases e_10 : whl (a.2 2) f
  · rw [if_pos e_10] at hw_10
    obtain rfl : r_10 = nI 1 := hw_10
    refine k_if_eq (tgt := 20) hx hb (by decide) dX0_isWholeIfAny_13 (by decide) (fun q => absurd q (by decide)) (fun _ => ?_)
    refine lv_iconst (v := nI 1) hx hb dX0_isWholeIfAny_16 (by decide) ?_
    refine lv_goto (tgt := 21) hx hb dX0_isWholeIfAny_17 (by decide) ?_
    exact k_iret (v := nI 1) hx hb hr hlk (by decide) () ((if_pos e_10).symm) hP hD hS dX0_isWholeIfAny_21
  · rw [if_neg e_10] at hw_10
    obtain rfl : r_10 = nI 0 := hw_10
    refine k_if_eq (tgt := 20) hx hb (by decide) dX0_isWholeIfAny_13 (by decide) (fun _ => ?_) (fun q => absurd q (by decide))
    refine lv_iconst (v := nI 0) hx hb dX0_isWholeIfAny_20 (by decide) ?_
    exact k_iret (v := nI 0) hx hb hr hlk (by decide) () ((if_neg e_10).symm) hP hD hS dX0_isWholeIfAny_21
set_option maxHeartbeats 4000000 in
set_option maxRecDepth 100000 in
theorem c_X0_isAnchorShowable0 (l : Launch) (D : va_G) (cI cZ : ClassId) (q : Nat → Nat) (a : AS) (b9 t9 : Int32) : kMi l yX0_isAnchorShowable wsX0_isAnchorShowable 2 43 D (TY cI cZ) [.ref (q 3), .int (-1)] [(q 3, .inr (0, [.ref (q 2), .ref (q 31), .int (nI (a.1 11)), .int b9, .int t9, .int (nI (a.1 15))])), (q 31, .inl (cI, 100, .inl (a.2 5))), (q 2, .inr (2, [.ref (q 20), .ref (q 21), .int (nI (a.1 8)), .int (nI (a.1 14) - 1), .int (nI (a.1 13))])), (q 20, .inl (cZ, 300, .inl (a.2 2))), (q 21, .inl (cI, 300, .inl (a.2 4)))] (fun (r : Int32) (_ : Unit) => r = nI 1) (fun (_ : Unit) => FWb cI q a b9 t9 ++ SWa cI cZ q a) := by
  intro sz
  refine k_in (Qc := fun A => va_Qi (fun (r : Int32) (_ : Unit) => r = nI 1) (kB D A (fun (_ : Unit) => FWb cI q a b9 t9 ++ SWa cI cZ q a)) A) (cc := cX0_isAnchorShowable) (maxL := 2) (ret := (some .boolean)) (by decide) rfl (Nat.le_of_ble_eq_true rfl) ?_
  intro p e s m below meth c A ls hfix hr hlk hN hP hK hD hA hS hl
  have hfix : CallFix p m c cX0_isAnchorShowable 2 s [.ref (q 3), .int (-1)].toArray wsX0_isAnchorShowable RX0 := hfix
  have hl : lv_has ls 2 [(0, .ref (q 3)), (1, .int (-1))] := hl
  obtain ⟨hx, hb, hml, hown, hts⟩ := id hfix
  have hP : va_P D vwCl [(q 3, .inr (0, [.ref (q 2), .ref (q 31), .int (nI (a.1 11)), .int b9, .int t9, .int (nI (a.1 15))])), (q 31, .inl (cI, 100, .inl (a.2 5))), (q 2, .inr (2, [.ref (q 20), .ref (q 21), .int (nI (a.1 8)), .int (nI (a.1 14) - 1), .int (nI (a.1 13))])), (q 20, .inl (cZ, 300, .inl (a.2 2))), (q 21, .inl (cI, 300, .inl (a.2 4)))] s.heap := hP
  have hD : va_D A [(q 3, .inr (0, [.ref (q 2), .ref (q 31), .int (nI (a.1 11)), .int b9, .int t9, .int (nI (a.1 15))])), (q 31, .inl (cI, 100, .inl (a.2 5))), (q 2, .inr (2, [.ref (q 20), .ref (q 21), .int (nI (a.1 8)), .int (nI (a.1 14) - 1), .int (nI (a.1 13))])), (q 20, .inl (cZ, 300, .inl (a.2 2))), (q 21, .inl (cI, 300, .inl (a.2 4)))] := hD
  have hS : ∃ (H : Heap) (locs : List Loc), H = s.heap ∧ locs = [] ∧ va_S A s.heap H locs := ⟨_, _, rfl, rfl, hS⟩
  obtain ⟨H, locs, hH, hlocs, hS⟩ := hS
  rw [← hH] at hP
  suffices hW9 : W p l e ({ frames := 2, cells := 0, slots := 0, locals := 43 } : Room) s m [.ref (q 3), .int (-1)].toArray below meth c H locs 0 0 (MQ below (va_Qi (fun (r : Int32) (_ : Unit) => r = nI 1) (kB D A (fun (_ : Unit) => FWb cI q a b9 t9 ++ SWa cI cZ q a)) A) [.ref (q 3), .int (-1)].toArray s 0 0 A) (F0 m 0 ls []) by rw [hH, hlocs] at hW9; exact hW9
  clear hH hlocs
  refine lv_iload_n hx hb dX0_isAnchorShowable_0 rfl (lv_at hl 1 rfl) ?_
  refine lv_iconst (v := (-1)) hx hb dX0_isAnchorShowable_1 (by decide) ?_
  refine lv_icmp_eq (tgt := 27) hx hb dX0_isAnchorShowable_2 (by decide) (fun c_2 => ?_) (fun c_2 => absurd c_2 (fun h => h rfl))
  refine lv_iconst (v := nI 1) hx hb dX0_isAnchorShowable_27 (by decide) ?_
  refine lv_goto (tgt := 32) hx hb dX0_isAnchorShowable_28 (by decide) ?_
  exact k_iret (v := nI 1) hx hb hr hlk (by decide) () rfl hP hD hS dX0_isAnchorShowable_32
set_option maxHeartbeats 4000000 in
set_option maxRecDepth 100000 in
theorem c_X0_isAnchorShowable (l : Launch) (D : va_G) (cI cZ : ClassId) (q : Nat → Nat) (a : AS) (b9 t9 : Int32) (f : Nat) (hf : f < 100) : kMi l yX0_isAnchorShowable wsX0_isAnchorShowable 2 43 D (TY cI cZ) [.ref (q 3), .int (nI f)] [(q 3, .inr (0, [.ref (q 2), .ref (q 31), .int (nI (a.1 11)), .int b9, .int t9, .int (nI (a.1 15))])), (q 31, .inl (cI, 100, .inl (a.2 5))), (q 2, .inr (2, [.ref (q 20), .ref (q 21), .int (nI (a.1 8)), .int (nI (a.1 14) - 1), .int (nI (a.1 13))])), (q 20, .inl (cZ, 300, .inl (a.2 2))), (q 21, .inl (cI, 300, .inl (a.2 4)))] (fun (r : Int32) (_ : Unit) => r = (if cldA (a.2 2) f then nI 1 else nI 0)) (fun (_ : Unit) => FWb cI q a b9 t9 ++ SWa cI cZ q a) := by
  intro sz
  refine k_in (Qc := fun A => va_Qi (fun (r : Int32) (_ : Unit) => r = (if cldA (a.2 2) f then nI 1 else nI 0)) (kB D A (fun (_ : Unit) => FWb cI q a b9 t9 ++ SWa cI cZ q a)) A) (cc := cX0_isAnchorShowable) (maxL := 2) (ret := (some .boolean)) (by decide) rfl (Nat.le_of_ble_eq_true rfl) ?_
  intro p e s m below meth c A ls hfix hr hlk hN hP hK hD hA hS hl
  have hfix : CallFix p m c cX0_isAnchorShowable 2 s [.ref (q 3), .int (nI f)].toArray wsX0_isAnchorShowable RX0 := hfix
  have hl : lv_has ls 2 [(0, .ref (q 3)), (1, .int (nI f))] := hl
  obtain ⟨hx, hb, hml, hown, hts⟩ := id hfix
  have hinX0 : ∀ w ∈ wsX00, w ∈ wsX0_isAnchorShowable := fun _ h => List.mem_cons_of_mem _ (List.mem_append_left _ (List.mem_append_right _ h))
  have hP : va_P D vwCl [(q 3, .inr (0, [.ref (q 2), .ref (q 31), .int (nI (a.1 11)), .int b9, .int t9, .int (nI (a.1 15))])), (q 31, .inl (cI, 100, .inl (a.2 5))), (q 2, .inr (2, [.ref (q 20), .ref (q 21), .int (nI (a.1 8)), .int (nI (a.1 14) - 1), .int (nI (a.1 13))])), (q 20, .inl (cZ, 300, .inl (a.2 2))), (q 21, .inl (cI, 300, .inl (a.2 4)))] s.heap := hP
  have hD : va_D A [(q 3, .inr (0, [.ref (q 2), .ref (q 31), .int (nI (a.1 11)), .int b9, .int t9, .int (nI (a.1 15))])), (q 31, .inl (cI, 100, .inl (a.2 5))), (q 2, .inr (2, [.ref (q 20), .ref (q 21), .int (nI (a.1 8)), .int (nI (a.1 14) - 1), .int (nI (a.1 13))])), (q 20, .inl (cZ, 300, .inl (a.2 2))), (q 21, .inl (cI, 300, .inl (a.2 4)))] := hD
  have hS : ∃ (H : Heap) (locs : List Loc), H = s.heap ∧ locs = [] ∧ va_S A s.heap H locs := ⟨_, _, rfl, rfl, hS⟩
  obtain ⟨H, locs, hH, hlocs, hS⟩ := hS
  rw [← hH] at hP
  suffices hW9 : W p l e ({ frames := 2, cells := 0, slots := 0, locals := 43 } : Room) s m [.ref (q 3), .int (nI f)].toArray below meth c H locs 0 0 (MQ below (va_Qi (fun (r : Int32) (_ : Unit) => r = (if cldA (a.2 2) f then nI 1 else nI 0)) (kB D A (fun (_ : Unit) => FWb cI q a b9 t9 ++ SWa cI cZ q a)) A) [.ref (q 3), .int (nI f)].toArray s 0 0 A) (F0 m 0 ls []) by rw [hH, hlocs] at hW9; exact hW9
  clear hH hlocs
  refine lv_iload_n hx hb dX0_isAnchorShowable_0 rfl (lv_at hl 1 rfl) ?_
  refine lv_iconst (v := (-1)) hx hb dX0_isAnchorShowable_1 (by decide) ?_
  refine lv_icmp_eq (tgt := 27) hx hb dX0_isAnchorShowable_2 (by decide) (fun c_2 => absurd c_2 (nI_m1 (by omega))) (fun c_2 => ?_)
  refine lv_aload_n hx hb dX0_isAnchorShowable_5 rfl (lv_at hl 0 rfl) ?_
  refine va_get (D := D) (ci := 0) (v := .ref (q 2)) (C := RX0) (T := TX0) (N := 6) hx hb hts hinX0 hown hK hP 0 rfl rfl 0 (by decide) (hts _ (List.mem_of_getElem? (i := 1) rfl)) (fun _ h9 => h9) rfl dX0_isAnchorShowable_6 ?_
  refine lv_iload_n hx hb dX0_isAnchorShowable_9 rfl (lv_at hl 1 rfl) ?_
  refine k_callVi (n := 1) (wr := [(q 3, .inr (0, [.ref (q 2), .ref (q 31), .int (nI (a.1 11)), .int b9, .int t9, .int (nI (a.1 15))])), (q 31, .inl (cI, 100, .inl (a.2 5)))]) (As := [.int (nI f)]) (rest := []) hfix hN hK hP hD hS hA hl.1 (c_X2_holdsFrame l D cI cZ q a f (by omega)) gX0_isAnchorShowable_X2_holdsFrame rfl (by decide +kernel) rfl ⟨Nat.le_of_ble_eq_true rfl, Nat.le_of_ble_eq_true rfl⟩ [2, 3, 4] [0, 1] rfl rfl (by decide) (by decide) (by decide) 2 rfl rfl rfl (Nat.le_of_ble_eq_true rfl) ⟨Nat.zero_le _, Nat.zero_le _⟩ dX0_isAnchorShowable_10 (fun r_10 u H locs hw_10 hP hD hS => ?_)
  have hP : va_P D vwCl [(q 3, .inr (0, [.ref (q 2), .ref (q 31), .int (nI (a.1 11)), .int b9, .int t9, .int (nI (a.1 15))])), (q 31, .inl (cI, 100, .inl (a.2 5))), (q 2, .inr (2, [.ref (q 20), .ref (q 21), .int (nI (a.1 8)), .int (nI (a.1 14) - 1), .int (nI (a.1 13))])), (q 20, .inl (cZ, 300, .inl (a.2 2))), (q 21, .inl (cI, 300, .inl (a.2 4)))] H := hP.sub [0, 1, 2, 3, 4] rfl
  have hD : va_D A [(q 3, .inr (0, [.ref (q 2), .ref (q 31), .int (nI (a.1 11)), .int b9, .int t9, .int (nI (a.1 15))])), (q 31, .inl (cI, 100, .inl (a.2 5))), (q 2, .inr (2, [.ref (q 20), .ref (q 21), .int (nI (a.1 8)), .int (nI (a.1 14) - 1), .int (nI (a.1 13))])), (q 20, .inl (cZ, 300, .inl (a.2 2))), (q 21, .inl (cI, 300, .inl (a.2 4)))] := hD.sub [0, 1, 2, 3, 4] (by decide) rfl
  by_cases e_10 : whl (a.2 2) f
  · rw [if_pos e_10] at hw_10
    obtain rfl : r_10 = nI 1 := hw_10
    refine k_if_eq (tgt := 31) hx hb (by decide) dX0_isAnchorShowable_13 (by decide) (fun q => absurd q (by decide)) (fun _ => ?_)
    refine lv_aload_n hx hb dX0_isAnchorShowable_16 rfl (lv_at hl 0 rfl) ?_
    refine lv_iload_n hx hb dX0_isAnchorShowable_17 rfl (lv_at hl 1 rfl) ?_
    refine k_callSi (n := 1) (As := [.int (nI f)]) (rest := [.ref (q 3)]) hfix hN hK hP hD hS hA hl.1 (c_X0_needBefore l D cI cZ f (by omega)) (fun _ => rfl) gX0_isAnchorShowable_X0_needBefore rfl (by decide +kernel) rfl ⟨Nat.le_of_ble_eq_true rfl, Nat.le_of_ble_eq_true rfl⟩ [0, 1, 2, 3, 4] rfl (by decide) rfl (Nat.le_of_ble_eq_true rfl) ⟨Nat.zero_le _, Nat.zero_le _⟩ dX0_isAnchorShowable_18 (fun r_18 u H locs hw_18 hP hD hS => ?_)
    by_cases e_18 : f % 6 = 0
    · rw [if_pos e_18] at hw_18
      obtain rfl : r_18 = (-1) := hw_18
      refine k_callVi (n := 1) (wr := []) (As := [.int (-1)]) (rest := []) hfix hN hK hP hD hS hA hl.1 (c_X0_isWholeIfAny0 l D cI cZ q a b9 t9 ) gX0_isAnchorShowable_X0_isWholeIfAny rfl (by decide +kernel) rfl ⟨Nat.le_of_ble_eq_true rfl, Nat.le_of_ble_eq_true rfl⟩ [0, 1, 2, 3, 4] [] rfl rfl (by decide) (by decide) (by decide) 0 rfl rfl rfl (Nat.le_of_ble_eq_true rfl) ⟨Nat.zero_le _, Nat.zero_le _⟩ dX0_isAnchorShowable_21 (fun r_21 u H locs hw_21 hP hD hS => ?_)
      have hP : va_P D vwCl [(q 3, .inr (0, [.ref (q 2), .ref (q 31), .int (nI (a.1 11)), .int b9, .int t9, .int (nI (a.1 15))])), (q 31, .inl (cI, 100, .inl (a.2 5))), (q 2, .inr (2, [.ref (q 20), .ref (q 21), .int (nI (a.1 8)), .int (nI (a.1 14) - 1), .int (nI (a.1 13))])), (q 20, .inl (cZ, 300, .inl (a.2 2))), (q 21, .inl (cI, 300, .inl (a.2 4)))] H := hP.sub [0, 1, 2, 3, 4] rfl
      have hD : va_D A [(q 3, .inr (0, [.ref (q 2), .ref (q 31), .int (nI (a.1 11)), .int b9, .int t9, .int (nI (a.1 15))])), (q 31, .inl (cI, 100, .inl (a.2 5))), (q 2, .inr (2, [.ref (q 20), .ref (q 21), .int (nI (a.1 8)), .int (nI (a.1 14) - 1), .int (nI (a.1 13))])), (q 20, .inl (cZ, 300, .inl (a.2 2))), (q 21, .inl (cI, 300, .inl (a.2 4)))] := hD.sub [0, 1, 2, 3, 4] (by decide) rfl
      obtain rfl : r_21 = nI 1 := hw_21
      refine k_if_eq (tgt := 31) hx hb (by decide) dX0_isAnchorShowable_24 (by decide) (fun q => absurd q (by decide)) (fun _ => ?_)
      refine lv_iconst (v := nI 1) hx hb dX0_isAnchorShowable_27 (by decide) ?_
      refine lv_goto (tgt := 32) hx hb dX0_isAnchorShowable_28 (by decide) ?_
      exact k_iret (v := nI 1) hx hb hr hlk (by decide) () ((if_pos ⟨e_10, Or.inl e_18⟩).symm) hP hD hS dX0_isAnchorShowable_32
    · rw [if_neg e_18] at hw_18
      obtain rfl : r_18 = nI (bef f) := hw_18
      refine k_callVi (n := 1) (wr := []) (As := [.int (nI (bef f))]) (rest := []) hfix hN hK hP hD hS hA hl.1 (c_X0_isWholeIfAny l D cI cZ q a b9 t9 (bef f) (by first | omega | exact bef_lt (by omega) | exact beh_lt (by omega) (by omega))) gX0_isAnchorShowable_X0_isWholeIfAny rfl (by decide +kernel) rfl ⟨Nat.le_of_ble_eq_true rfl, Nat.le_of_ble_eq_true rfl⟩ [0, 1, 2, 3, 4] [] rfl rfl (by decide) (by decide) (by decide) 0 rfl rfl rfl (Nat.le_of_ble_eq_true rfl) ⟨Nat.zero_le _, Nat.zero_le _⟩ dX0_isAnchorShowable_21 (fun r_21 u H locs hw_21 hP hD hS => ?_)
      have hP : va_P D vwCl [(q 3, .inr (0, [.ref (q 2), .ref (q 31), .int (nI (a.1 11)), .int b9, .int t9, .int (nI (a.1 15))])), (q 31, .inl (cI, 100, .inl (a.2 5))), (q 2, .inr (2, [.ref (q 20), .ref (q 21), .int (nI (a.1 8)), .int (nI (a.1 14) - 1), .int (nI (a.1 13))])), (q 20, .inl (cZ, 300, .inl (a.2 2))), (q 21, .inl (cI, 300, .inl (a.2 4)))] H := hP.sub [0, 1, 2, 3, 4] rfl
      have hD : va_D A [(q 3, .inr (0, [.ref (q 2), .ref (q 31), .int (nI (a.1 11)), .int b9, .int t9, .int (nI (a.1 15))])), (q 31, .inl (cI, 100, .inl (a.2 5))), (q 2, .inr (2, [.ref (q 20), .ref (q 21), .int (nI (a.1 8)), .int (nI (a.1 14) - 1), .int (nI (a.1 13))])), (q 20, .inl (cZ, 300, .inl (a.2 2))), (q 21, .inl (cI, 300, .inl (a.2 4)))] := hD.sub [0, 1, 2, 3, 4] (by decide) rfl
      by_cases e_21 : whl (a.2 2) (bef f)
      · rw [if_pos e_21] at hw_21
        obtain rfl : r_21 = nI 1 := hw_21
        refine k_if_eq (tgt := 31) hx hb (by decide) dX0_isAnchorShowable_24 (by decide) (fun q => absurd q (by decide)) (fun _ => ?_)
        refine lv_iconst (v := nI 1) hx hb dX0_isAnchorShowable_27 (by decide) ?_
        refine lv_goto (tgt := 32) hx hb dX0_isAnchorShowable_28 (by decide) ?_
        exact k_iret (v := nI 1) hx hb hr hlk (by decide) () ((if_pos ⟨e_10, Or.inr e_21⟩).symm) hP hD hS dX0_isAnchorShowable_32
      · rw [if_neg e_21] at hw_21
        obtain rfl : r_21 = nI 0 := hw_21
        refine k_if_eq (tgt := 31) hx hb (by decide) dX0_isAnchorShowable_24 (by decide) (fun _ => ?_) (fun q => absurd q (by decide))
        refine lv_iconst (v := nI 0) hx hb dX0_isAnchorShowable_31 (by decide) ?_
        exact k_iret (v := nI 0) hx hb hr hlk (by decide) () ((if_neg (fun h => h.2.elim e_18 e_21)).symm) hP hD hS dX0_isAnchorShowable_32
  · rw [if_neg e_10] at hw_10
    obtain rfl : r_10 = nI 0 := hw_10
    refine k_if_eq (tgt := 31) hx hb (by decide) dX0_isAnchorShowable_13 (by decide) (fun _ => ?_) (fun q => absurd q (by decide))
    refine lv_iconst (v := nI 0) hx hb dX0_isAnchorShowable_31 (by decide) ?_
    exact k_iret (v := nI 0) hx hb hr hlk (by decide) () ((if_neg (fun h => e_10 h.1)).symm) hP hD hS dX0_isAnchorShowable_32
set_option maxHeartbeats 4000000 in
set_option maxRecDepth 100000 in
theorem c_X0_outcomeOf (l : Launch) (D : va_G) (cI cZ : ClassId) (q : Nat → Nat) (a : AS) (b9 t9 : Int32) (f : Nat) (hf : f < 100) : kMi l yX0_outcomeOf wsX0_outcomeOf 2 43 D (TY cI cZ) [.ref (q 3), .int (nI f)] [(q 3, .inr (0, [.ref (q 2), .ref (q 31), .int (nI (a.1 11)), .int b9, .int t9, .int (nI (a.1 15))])), (q 31, .inl (cI, 100, .inl (a.2 5))), (q 2, .inr (2, [.ref (q 20), .ref (q 21), .int (nI (a.1 8)), .int (nI (a.1 14) - 1), .int (nI (a.1 13))])), (q 20, .inl (cZ, 300, .inl (a.2 2))), (q 21, .inl (cI, 300, .inl (a.2 4)))] (fun (r : Int32) (_ : Unit) => r = nI (outc (a.2 2) (a.2 5) f)) (fun (_ : Unit) => FWb cI q a b9 t9 ++ SWa cI cZ q a) := by
  intro sz
  refine k_in (Qc := fun A => va_Qi (fun (r : Int32) (_ : Unit) => r = nI (outc (a.2 2) (a.2 5) f)) (kB D A (fun (_ : Unit) => FWb cI q a b9 t9 ++ SWa cI cZ q a)) A) (cc := cX0_outcomeOf) (maxL := 5) (ret := (some .int)) (by decide) rfl (Nat.le_of_ble_eq_true rfl) ?_
  intro p e s m below meth c A ls hfix hr hlk hN hP hK hD hA hS hl
  have hfix : CallFix p m c cX0_outcomeOf 5 s [.ref (q 3), .int (nI f)].toArray wsX0_outcomeOf RX0 := hfix
  have hl : lv_has ls 5 [(0, .ref (q 3)), (1, .int (nI f))] := hl
  obtain ⟨hx, hb, hml, hown, hts⟩ := id hfix
  have hinX0 : ∀ w ∈ wsX00, w ∈ wsX0_outcomeOf := fun _ h => List.mem_cons_of_mem _ (List.mem_append_left _ (List.mem_append_right _ h))
  have hP : va_P D vwCl [(q 3, .inr (0, [.ref (q 2), .ref (q 31), .int (nI (a.1 11)), .int b9, .int t9, .int (nI (a.1 15))])), (q 31, .inl (cI, 100, .inl (a.2 5))), (q 2, .inr (2, [.ref (q 20), .ref (q 21), .int (nI (a.1 8)), .int (nI (a.1 14) - 1), .int (nI (a.1 13))])), (q 20, .inl (cZ, 300, .inl (a.2 2))), (q 21, .inl (cI, 300, .inl (a.2 4)))] s.heap := hP
  have hD : va_D A [(q 3, .inr (0, [.ref (q 2), .ref (q 31), .int (nI (a.1 11)), .int b9, .int t9, .int (nI (a.1 15))])), (q 31, .inl (cI, 100, .inl (a.2 5))), (q 2, .inr (2, [.ref (q 20), .ref (q 21), .int (nI (a.1 8)), .int (nI (a.1 14) - 1), .int (nI (a.1 13))])), (q 20, .inl (cZ, 300, .inl (a.2 2))), (q 21, .inl (cI, 300, .inl (a.2 4)))] := hD
  have hS : ∃ (H : Heap) (locs : List Loc), H = s.heap ∧ locs = [] ∧ va_S A s.heap H locs := ⟨_, _, rfl, rfl, hS⟩
  obtain ⟨H, locs, hH, hlocs, hS⟩ := hS
  rw [← hH] at hP
  suffices hW9 : W p l e ({ frames := 2, cells := 0, slots := 0, locals := 43 } : Room) s m [.ref (q 3), .int (nI f)].toArray below meth c H locs 0 0 (MQ below (va_Qi (fun (r : Int32) (_ : Unit) => r = nI (outc (a.2 2) (a.2 5) f)) (kB D A (fun (_ : Unit) => FWb cI q a b9 t9 ++ SWa cI cZ q a)) A) [.ref (q 3), .int (nI f)].toArray s 0 0 A) (F0 m 0 ls []) by rw [hH, hlocs] at hW9; exact hW9
  clear hH hlocs
  refine lv_aload_n hx hb dX0_outcomeOf_0 rfl (lv_at hl 0 rfl) ?_
  refine va_get (D := D) (ci := 0) (v := .ref (q 2)) (C := RX0) (T := TX0) (N := 6) hx hb hts hinX0 hown hK hP 0 rfl rfl 0 (by decide) (hts _ (List.mem_of_getElem? (i := 1) rfl)) (fun _ h9 => h9) rfl dX0_outcomeOf_1 ?_
  refine lv_iload_n hx hb dX0_outcomeOf_4 rfl (lv_at hl 1 rfl) ?_
  refine k_callVi (n := 1) (wr := [(q 3, .inr (0, [.ref (q 2), .ref (q 31), .int (nI (a.1 11)), .int b9, .int t9, .int (nI (a.1 15))])), (q 31, .inl (cI, 100, .inl (a.2 5)))]) (As := [.int (nI f)]) (rest := []) hfix hN hK hP hD hS hA hl.1 (c_X2_holdsFrame l D cI cZ q a f (by omega)) gX0_outcomeOf_X2_holdsFrame rfl (by decide +kernel) rfl ⟨Nat.le_of_ble_eq_true rfl, Nat.le_of_ble_eq_true rfl⟩ [2, 3, 4] [0, 1] rfl rfl (by decide) (by decide) (by decide) 2 rfl rfl rfl (Nat.le_of_ble_eq_true rfl) ⟨Nat.zero_le _, Nat.zero_le _⟩ dX0_outcomeOf_5 (fun r_5 u H locs hw_5 hP hD hS => ?_)
  have hP : va_P D vwCl [(q 3, .inr (0, [.ref (q 2), .ref (q 31), .int (nI (a.1 11)), .int b9, .int t9, .int (nI (a.1 15))])), (q 31, .inl (cI, 100, .inl (a.2 5))), (q 2, .inr (2, [.ref (q 20), .ref (q 21), .int (nI (a.1 8)), .int (nI (a.1 14) - 1), .int (nI (a.1 13))])), (q 20, .inl (cZ, 300, .inl (a.2 2))), (q 21, .inl (cI, 300, .inl (a.2 4)))] H := hP.sub [0, 1, 2, 3, 4] rfl
  have hD : va_D A [(q 3, .inr (0, [.ref (q 2), .ref (q 31), .int (nI (a.1 11)), .int b9, .int t9, .int (nI (a.1 15))])), (q 31, .inl (cI, 100, .inl (a.2 5))), (q 2, .inr (2, [.ref (q 20), .ref (q 21), .int (nI (a.1 8)), .int (nI (a.1 14) - 1), .int (nI (a.1 13))])), (q 20, .inl (cZ, 300, .inl (a.2 2))), (q 21, .inl (cI, 300, .inl (a.2 4)))] := hD.sub [0, 1, 2, 3, 4] (by decide) rfl
  by_cases e_5 : whl (a.2 2) f
  · rw [if_pos e_5] at hw_5
    obtain rfl : r_5 = nI 1 := hw_5
    refine k_if_ne (tgt := 13) hx hb (by decide) dX0_outcomeOf_8 (by decide) (fun _ => ?_) (fun q => absurd q (by decide))
    refine lv_iload_n hx hb dX0_outcomeOf_13 rfl (lv_at hl 1 rfl) ?_
    refine k_callSi (n := 1) (As := [.int (nI f)]) (rest := []) hfix hN hK hP hD hS hA hl.1 (c_X0_needBefore l D cI cZ f (by omega)) (fun _ => rfl) gX0_outcomeOf_X0_needBefore rfl (by decide +kernel) rfl ⟨Nat.le_of_ble_eq_true rfl, Nat.le_of_ble_eq_true rfl⟩ [0, 1, 2, 3, 4] rfl (by decide) rfl (Nat.le_of_ble_eq_true rfl) ⟨Nat.zero_le _, Nat.zero_le _⟩ dX0_outcomeOf_14 (fun r_14 u H locs hw_14 hP hD hS => ?_)
    by_cases e_14 : f % 6 = 0
    · rw [if_pos e_14] at hw_14
      obtain rfl : r_14 = (-1) := hw_14
      refine lv_istore_n (lv' := [(2, .int (-1)), (0, .ref (q 3)), (1, .int (nI f))]) hx hb dX0_outcomeOf_17 rfl hl (by decide) rfl (fun ls hl => ?_)
      refine lv_iload_n hx hb dX0_outcomeOf_18 rfl (lv_at hl 2 rfl) ?_
      refine k_callSi (n := 1) (As := [.int (nI f)]) (rest := []) hfix hN hK hP hD hS hA hl.1 (c_X0_needBehind l D cI cZ f (by omega)) (fun _ => rfl) gX0_outcomeOf_X0_needBehind rfl (by decide +kernel) rfl ⟨Nat.le_of_ble_eq_true rfl, Nat.le_of_ble_eq_true rfl⟩ [0, 1, 2, 3, 4] rfl (by decide) rfl (Nat.le_of_ble_eq_true rfl) ⟨Nat.zero_le _, Nat.zero_le _⟩ dX0_outcomeOf_19 (fun r_19 u H locs hw_19 hP hD hS => ?_)
      by_cases e_19 : f % 3 = 0
      · rw [if_pos e_19] at hw_19
        obtain rfl : r_19 = (-1) := hw_19
        refine lv_istore_n (lv' := [(3, .int (-1)), (2, .int (-1)), (0, .ref (q 3)), (1, .int (nI f))]) hx hb dX0_outcomeOf_22 rfl hl (by decide) rfl (fun ls hl => ?_)
        refine lv_iload_n hx hb dX0_outcomeOf_23 rfl (lv_at hl 1 rfl) ?_
        refine lv_iconst (v := (-1)) hx hb dX0_outcomeOf_24 (by decide) ?_
        refine lv_icmp_eq (tgt := 36) hx hb dX0_outcomeOf_25 (by decide) (fun c_25 => ?_) (fun c_25 => absurd c_25 (fun h => h rfl))
        refine lv_aload_n hx hb dX0_outcomeOf_36 rfl (lv_at hl 2 rfl) ?_
        refine lv_iload_n hx hb dX0_outcomeOf_37 rfl (lv_at hl 0 rfl) ?_
        refine k_callVi (n := 1) (wr := []) (As := [.int (-1)]) (rest := []) hfix hN hK hP hD hS hA hl.1 (c_X0_isWholeIfAny0 l D cI cZ q a b9 t9 ) gX0_outcomeOf_X0_isWholeIfAny rfl (by decide +kernel) rfl ⟨Nat.le_of_ble_eq_true rfl, Nat.le_of_ble_eq_true rfl⟩ [0, 1, 2, 3, 4] [] rfl rfl (by decide) (by decide) (by decide) 0 rfl rfl rfl (Nat.le_of_ble_eq_true rfl) ⟨Nat.zero_le _, Nat.zero_le _⟩ dX0_outcomeOf_38 (fun r_38 u H locs hw_38 hP hD hS => ?_)
        have hP : va_P D vwCl [(q 3, .inr (0, [.ref (q 2), .ref (q 31), .int (nI (a.1 11)), .int b9, .int t9, .int (nI (a.1 15))])), (q 31, .inl (cI, 100, .inl (a.2 5))), (q 2, .inr (2, [.ref (q 20), .ref (q 21), .int (nI (a.1 8)), .int (nI (a.1 14) - 1), .int (nI (a.1 13))])), (q 20, .inl (cZ, 300, .inl (a.2 2))), (q 21, .inl (cI, 300, .inl (a.2 4)))] H := hP.sub [0, 1, 2, 3, 4] rfl
        have hD : va_D A [(q 3, .inr (0, [.ref (q 2), .ref (q 31), .int (nI (a.1 11)), .int b9, .int t9, .int (nI (a.1 15))])), (q 31, .inl (cI, 100, .inl (a.2 5))), (q 2, .inr (2, [.ref (q 20), .ref (q 21), .int (nI (a.1 8)), .int (nI (a.1 14) - 1), .int (nI (a.1 13))])), (q 20, .inl (cZ, 300, .inl (a.2 2))), (q 21, .inl (cI, 300, .inl (a.2 4)))] := hD.sub [0, 1, 2, 3, 4] (by decide) rfl
        obtain rfl : r_38 = nI 1 := hw_38
        refine k_if_eq (tgt := 48) hx hb (by decide) dX0_outcomeOf_41 (by decide) (fun q => absurd q (by decide)) (fun _ => ?_)
        refine lv_iconst (v := nI 1) hx hb dX0_outcomeOf_44 (by decide) ?_
        refine lv_goto (tgt := 49) hx hb dX0_outcomeOf_45 (by decide) ?_
        refine lv_istore (lv' := [(4, .int (nI 1)), (3, .int (-1)), (2, .int (-1)), (0, .ref (q 3)), (1, .int (nI f))]) hx hb dX0_outcomeOf_49 hl (by decide) rfl (fun ls hl => ?_)
        refine lv_iload hx hb dX0_outcomeOf_51 (lv_at hl 0 rfl) ?_
        refine k_if_eq (tgt := 60) hx hb (by decide) dX0_outcomeOf_53 (by decide) (fun q => absurd q (by decide)) (fun _ => ?_)
        refine lv_iconst (v := nI 1) hx hb dX0_outcomeOf_56 (by decide) ?_
        refine lv_goto (tgt := 61) hx hb dX0_outcomeOf_57 (by decide) ?_
        exact k_iret (v := nI 1) hx hb hr hlk rfl () (by rw [outc, if_pos e_5, if_pos ⟨Or.inl e_14, Or.inl e_19⟩]) hP hD hS dX0_outcomeOf_61
      · rw [if_neg e_19] at hw_19
        obtain rfl : r_19 = nI (beh f) := hw_19
        refine lv_istore_n (lv' := [(3, .int (nI (beh f))), (2, .int (-1)), (0, .ref (q 3)), (1, .int (nI f))]) hx hb dX0_outcomeOf_22 rfl hl (by decide) rfl (fun ls hl => ?_)
        refine lv_iload_n hx hb dX0_outcomeOf_23 rfl (lv_at hl 1 rfl) ?_
        refine lv_iconst (v := (-1)) hx hb dX0_outcomeOf_24 (by decide) ?_
        refine lv_icmp_eq (tgt := 36) hx hb dX0_outcomeOf_25 (by decide) (fun c_25 => ?_) (fun c_25 => absurd c_25 (fun h => h rfl))
        refine lv_aload_n hx hb dX0_outcomeOf_36 rfl (lv_at hl 2 rfl) ?_
        refine lv_iload_n hx hb dX0_outcomeOf_37 rfl (lv_at hl 0 rfl) ?_
        refine k_callVi (n := 1) (wr := []) (As := [.int (nI (beh f))]) (rest := []) hfix hN hK hP hD hS hA hl.1 (c_X0_isWholeIfAny l D cI cZ q a b9 t9 (beh f) (by first | omega | exact bef_lt (by omega) | exact beh_lt (by omega) (by omega))) gX0_outcomeOf_X0_isWholeIfAny rfl (by decide +kernel) rfl ⟨Nat.le_of_ble_eq_true rfl, Nat.le_of_ble_eq_true rfl⟩ [0, 1, 2, 3, 4] [] rfl rfl (by decide) (by decide) (by decide) 0 rfl rfl rfl (Nat.le_of_ble_eq_true rfl) ⟨Nat.zero_le _, Nat.zero_le _⟩ dX0_outcomeOf_38 (fun r_38 u H locs hw_38 hP hD hS => ?_)
        have hP : va_P D vwCl [(q 3, .inr (0, [.ref (q 2), .ref (q 31), .int (nI (a.1 11)), .int b9, .int t9, .int (nI (a.1 15))])), (q 31, .inl (cI, 100, .inl (a.2 5))), (q 2, .inr (2, [.ref (q 20), .ref (q 21), .int (nI (a.1 8)), .int (nI (a.1 14) - 1), .int (nI (a.1 13))])), (q 20, .inl (cZ, 300, .inl (a.2 2))), (q 21, .inl (cI, 300, .inl (a.2 4)))] H := hP.sub [0, 1, 2, 3, 4] rfl
        have hD : va_D A [(q 3, .inr (0, [.ref (q 2), .ref (q 31), .int (nI (a.1 11)), .int b9, .int t9, .int (nI (a.1 15))])), (q 31, .inl (cI, 100, .inl (a.2 5))), (q 2, .inr (2, [.ref (q 20), .ref (q 21), .int (nI (a.1 8)), .int (nI (a.1 14) - 1), .int (nI (a.1 13))])), (q 20, .inl (cZ, 300, .inl (a.2 2))), (q 21, .inl (cI, 300, .inl (a.2 4)))] := hD.sub [0, 1, 2, 3, 4] (by decide) rfl
        by_cases e_38 : whl (a.2 2) (beh f)
        · rw [if_pos e_38] at hw_38
          obtain rfl : r_38 = nI 1 := hw_38
          refine k_if_eq (tgt := 48) hx hb (by decide) dX0_outcomeOf_41 (by decide) (fun q => absurd q (by decide)) (fun _ => ?_)
          refine lv_iconst (v := nI 1) hx hb dX0_outcomeOf_44 (by decide) ?_
          refine lv_goto (tgt := 49) hx hb dX0_outcomeOf_45 (by decide) ?_
          refine lv_istore (lv' := [(4, .int (nI 1)), (3, .int (nI (beh f))), (2, .int (-1)), (0, .ref (q 3)), (1, .int (nI f))]) hx hb dX0_outcomeOf_49 hl (by decide) rfl (fun ls hl => ?_)
          refine lv_iload hx hb dX0_outcomeOf_51 (lv_at hl 0 rfl) ?_
          refine k_if_eq (tgt := 60) hx hb (by decide) dX0_outcomeOf_53 (by decide) (fun q => absurd q (by decide)) (fun _ => ?_)
          refine lv_iconst (v := nI 1) hx hb dX0_outcomeOf_56 (by decide) ?_
          refine lv_goto (tgt := 61) hx hb dX0_outcomeOf_57 (by decide) ?_
          exact k_iret (v := nI 1) hx hb hr hlk rfl () (by rw [outc, if_pos e_5, if_pos ⟨Or.inl e_14, Or.inr e_38⟩]) hP hD hS dX0_outcomeOf_61
        · rw [if_neg e_38] at hw_38
          obtain rfl : r_38 = nI 0 := hw_38
          refine k_if_eq (tgt := 48) hx hb (by decide) dX0_outcomeOf_41 (by decide) (fun _ => ?_) (fun q => absurd q (by decide))
          refine lv_iconst (v := nI 0) hx hb dX0_outcomeOf_48 (by decide) ?_
          refine lv_istore (lv' := [(4, .int (nI 0)), (3, .int (nI (beh f))), (2, .int (-1)), (0, .ref (q 3)), (1, .int (nI f))]) hx hb dX0_outcomeOf_49 hl (by decide) rfl (fun ls hl => ?_)
          refine lv_iload hx hb dX0_outcomeOf_51 (lv_at hl 0 rfl) ?_
          refine k_if_eq (tgt := 60) hx hb (by decide) dX0_outcomeOf_53 (by decide) (fun _ => ?_) (fun q => absurd q (by decide))
          refine lv_iconst (v := nI 3) hx hb dX0_outcomeOf_60 (by decide) ?_
          exact k_iret (v := nI 3) hx hb hr hlk rfl () (by rw [outc, if_pos e_5, if_neg (fun h => h.2.elim e_19 e_38)]) hP hD hS dX0_outcomeOf_61
    · rw [if_neg e_14] at hw_14
      obtain rfl : r_14 = nI (bef f) := hw_14
      refine lv_istore_n (lv' := [(2, .int (nI (bef f))), (0, .ref (q 3)), (1, .int (nI f))]) hx hb dX0_outcomeOf_17 rfl hl (by decide) rfl (fun ls hl => ?_)
      refine lv_iload_n hx hb dX0_outcomeOf_18 rfl (lv_at hl 2 rfl) ?_
      refine k_callSi (n := 1) (As := [.int (nI f)]) (rest := []) hfix hN hK hP hD hS hA hl.1 (c_X0_needBehind l D cI cZ f (by omega)) (fun _ => rfl) gX0_outcomeOf_X0_needBehind rfl (by decide +kernel) rfl ⟨Nat.le_of_ble_eq_true rfl, Nat.le_of_ble_eq_true rfl⟩ [0, 1, 2, 3, 4] rfl (by decide) rfl (Nat.le_of_ble_eq_true rfl) ⟨Nat.zero_le _, Nat.zero_le _⟩ dX0_outcomeOf_19 (fun r_19 u H locs hw_19 hP hD hS => ?_)
      by_cases e_19 : f % 3 = 0
      · rw [if_pos e_19] at hw_19
        obtain rfl : r_19 = (-1) := hw_19
        refine lv_istore_n (lv' := [(3, .int (-1)), (2, .int (nI (bef f))), (0, .ref (q 3)), (1, .int (nI f))]) hx hb dX0_outcomeOf_22 rfl hl (by decide) rfl (fun ls hl => ?_)
        refine lv_iload_n hx hb dX0_outcomeOf_23 rfl (lv_at hl 1 rfl) ?_
        refine lv_iconst (v := (-1)) hx hb dX0_outcomeOf_24 (by decide) ?_
        refine lv_icmp_eq (tgt := 36) hx hb dX0_outcomeOf_25 (by decide) (fun c_25 => absurd c_25 (nI_m1 (by have := bef_lt hf; omega))) (fun c_25 => ?_)
        refine lv_aload_n hx hb dX0_outcomeOf_28 rfl (lv_at hl 2 rfl) ?_
        refine lv_iload_n hx hb dX0_outcomeOf_29 rfl (lv_at hl 1 rfl) ?_
        refine k_callVi (n := 1) (wr := [(q 2, .inr (2, [.ref (q 20), .ref (q 21), .int (nI (a.1 8)), .int (nI (a.1 14) - 1), .int (nI (a.1 13))])), (q 20, .inl (cZ, 300, .inl (a.2 2))), (q 21, .inl (cI, 300, .inl (a.2 4)))]) (As := [.int (nI (bef f))]) (rest := []) hfix hN hK hP hD hS hA hl.1 (c_X0_wasShown l D cI cZ q a b9 t9 (bef f) (by first | omega | exact bef_lt (by omega) | exact beh_lt (by omega) (by omega))) gX0_outcomeOf_X0_wasShown rfl (by decide +kernel) rfl ⟨Nat.le_of_ble_eq_true rfl, Nat.le_of_ble_eq_true rfl⟩ [0, 1] [2, 3, 4] rfl rfl (by decide) (by decide) (by decide) 0 rfl rfl rfl (Nat.le_of_ble_eq_true rfl) ⟨Nat.zero_le _, Nat.zero_le _⟩ dX0_outcomeOf_30 (fun r_30 u H locs hw_30 hP hD hS => ?_)
        have hP : va_P D vwCl [(q 3, .inr (0, [.ref (q 2), .ref (q 31), .int (nI (a.1 11)), .int b9, .int t9, .int (nI (a.1 15))])), (q 31, .inl (cI, 100, .inl (a.2 5))), (q 2, .inr (2, [.ref (q 20), .ref (q 21), .int (nI (a.1 8)), .int (nI (a.1 14) - 1), .int (nI (a.1 13))])), (q 20, .inl (cZ, 300, .inl (a.2 2))), (q 21, .inl (cI, 300, .inl (a.2 4)))] H := hP.sub [3, 4, 0, 1, 2] rfl
        have hD : va_D A [(q 3, .inr (0, [.ref (q 2), .ref (q 31), .int (nI (a.1 11)), .int b9, .int t9, .int (nI (a.1 15))])), (q 31, .inl (cI, 100, .inl (a.2 5))), (q 2, .inr (2, [.ref (q 20), .ref (q 21), .int (nI (a.1 8)), .int (nI (a.1 14) - 1), .int (nI (a.1 13))])), (q 20, .inl (cZ, 300, .inl (a.2 2))), (q 21, .inl (cI, 300, .inl (a.2 4)))] := hD.sub [3, 4, 0, 1, 2] (by decide) rfl
        by_cases e_30 : a.2 5 (bef f) = nI 1
        · rw [if_pos e_30] at hw_30
          obtain rfl : r_30 = nI 1 := hw_30
          refine k_if_eq (tgt := 48) hx hb (by decide) dX0_outcomeOf_33 (by decide) (fun q => absurd q (by decide)) (fun _ => ?_)
          refine lv_aload_n hx hb dX0_outcomeOf_36 rfl (lv_at hl 2 rfl) ?_
          refine lv_iload_n hx hb dX0_outcomeOf_37 rfl (lv_at hl 0 rfl) ?_
          refine k_callVi (n := 1) (wr := []) (As := [.int (-1)]) (rest := []) hfix hN hK hP hD hS hA hl.1 (c_X0_isWholeIfAny0 l D cI cZ q a b9 t9 ) gX0_outcomeOf_X0_isWholeIfAny rfl (by decide +kernel) rfl ⟨Nat.le_of_ble_eq_true rfl, Nat.le_of_ble_eq_true rfl⟩ [0, 1, 2, 3, 4] [] rfl rfl (by decide) (by decide) (by decide) 0 rfl rfl rfl (Nat.le_of_ble_eq_true rfl) ⟨Nat.zero_le _, Nat.zero_le _⟩ dX0_outcomeOf_38 (fun r_38 u H locs hw_38 hP hD hS => ?_)
          have hP : va_P D vwCl [(q 3, .inr (0, [.ref (q 2), .ref (q 31), .int (nI (a.1 11)), .int b9, .int t9, .int (nI (a.1 15))])), (q 31, .inl (cI, 100, .inl (a.2 5))), (q 2, .inr (2, [.ref (q 20), .ref (q 21), .int (nI (a.1 8)), .int (nI (a.1 14) - 1), .int (nI (a.1 13))])), (q 20, .inl (cZ, 300, .inl (a.2 2))), (q 21, .inl (cI, 300, .inl (a.2 4)))] H := hP.sub [0, 1, 2, 3, 4] rfl
          have hD : va_D A [(q 3, .inr (0, [.ref (q 2), .ref (q 31), .int (nI (a.1 11)), .int b9, .int t9, .int (nI (a.1 15))])), (q 31, .inl (cI, 100, .inl (a.2 5))), (q 2, .inr (2, [.ref (q 20), .ref (q 21), .int (nI (a.1 8)), .int (nI (a.1 14) - 1), .int (nI (a.1 13))])), (q 20, .inl (cZ, 300, .inl (a.2 2))), (q 21, .inl (cI, 300, .inl (a.2 4)))] := hD.sub [0, 1, 2, 3, 4] (by decide) rfl
          obtain rfl : r_38 = nI 1 := hw_38
          refine k_if_eq (tgt := 48) hx hb (by decide) dX0_outcomeOf_41 (by decide) (fun q => absurd q (by decide)) (fun _ => ?_)
          refine lv_iconst (v := nI 1) hx hb dX0_outcomeOf_44 (by decide) ?_
          refine lv_goto (tgt := 49) hx hb dX0_outcomeOf_45 (by decide) ?_
          refine lv_istore (lv' := [(4, .int (nI 1)), (3, .int (-1)), (2, .int (nI (bef f))), (0, .ref (q 3)), (1, .int (nI f))]) hx hb dX0_outcomeOf_49 hl (by decide) rfl (fun ls hl => ?_)
          refine lv_iload hx hb dX0_outcomeOf_51 (lv_at hl 0 rfl) ?_
          refine k_if_eq (tgt := 60) hx hb (by decide) dX0_outcomeOf_53 (by decide) (fun q => absurd q (by decide)) (fun _ => ?_)
          refine lv_iconst (v := nI 1) hx hb dX0_outcomeOf_56 (by decide) ?_
          refine lv_goto (tgt := 61) hx hb dX0_outcomeOf_57 (by decide) ?_
          exact k_iret (v := nI 1) hx hb hr hlk rfl () (by rw [outc, if_pos e_5, if_pos ⟨Or.inr e_30, Or.inl e_19⟩]) hP hD hS dX0_outcomeOf_61
        · rw [if_neg e_30] at hw_30
          obtain rfl : r_30 = nI 0 := hw_30
          refine k_if_eq (tgt := 48) hx hb (by decide) dX0_outcomeOf_33 (by decide) (fun _ => ?_) (fun q => absurd q (by decide))
          refine lv_iconst (v := nI 0) hx hb dX0_outcomeOf_48 (by decide) ?_
          refine lv_istore (lv' := [(4, .int (nI 0)), (3, .int (-1)), (2, .int (nI (bef f))), (0, .ref (q 3)), (1, .int (nI f))]) hx hb dX0_outcomeOf_49 hl (by decide) rfl (fun ls hl => ?_)
          refine lv_iload hx hb dX0_outcomeOf_51 (lv_at hl 0 rfl) ?_
          refine k_if_eq (tgt := 60) hx hb (by decide) dX0_outcomeOf_53 (by decide) (fun _ => ?_) (fun q => absurd q (by decide))
          refine lv_iconst (v := nI 3) hx hb dX0_outcomeOf_60 (by decide) ?_
          exact k_iret (v := nI 3) hx hb hr hlk rfl () (by rw [outc, if_pos e_5, if_neg (fun h => h.1.elim e_14 e_30)]) hP hD hS dX0_outcomeOf_61
      · rw [if_neg e_19] at hw_19
        obtain rfl : r_19 = nI (beh f) := hw_19
        refine lv_istore_n (lv' := [(3, .int (nI (beh f))), (2, .int (nI (bef f))), (0, .ref (q 3)), (1, .int (nI f))]) hx hb dX0_outcomeOf_22 rfl hl (by decide) rfl (fun ls hl => ?_)
        refine lv_iload_n hx hb dX0_outcomeOf_23 rfl (lv_at hl 1 rfl) ?_
        refine lv_iconst (v := (-1)) hx hb dX0_outcomeOf_24 (by decide) ?_
        refine lv_icmp_eq (tgt := 36) hx hb dX0_outcomeOf_25 (by decide) (fun c_25 => absurd c_25 (nI_m1 (by have := bef_lt hf; omega))) (fun c_25 => ?_)
        refine lv_aload_n hx hb dX0_outcomeOf_28 rfl (lv_at hl 2 rfl) ?_
        refine lv_iload_n hx hb dX0_outcomeOf_29 rfl (lv_at hl 1 rfl) ?_
        refine k_callVi (n := 1) (wr := [(q 2, .inr (2, [.ref (q 20), .ref (q 21), .int (nI (a.1 8)), .int (nI (a.1 14) - 1), .int (nI (a.1 13))])), (q 20, .inl (cZ, 300, .inl (a.2 2))), (q 21, .inl (cI, 300, .inl (a.2 4)))]) (As := [.int (nI (bef f))]) (rest := []) hfix hN hK hP hD hS hA hl.1 (c_X0_wasShown l D cI cZ q a b9 t9 (bef f) (by first | omega | exact bef_lt (by omega) | exact beh_lt (by omega) (by omega))) gX0_outcomeOf_X0_wasShown rfl (by decide +kernel) rfl ⟨Nat.le_of_ble_eq_true rfl, Nat.le_of_ble_eq_true rfl⟩ [0, 1] [2, 3, 4] rfl rfl (by decide) (by decide) (by decide) 0 rfl rfl rfl (Nat.le_of_ble_eq_true rfl) ⟨Nat.zero_le _, Nat.zero_le _⟩ dX0_outcomeOf_30 (fun r_30 u H locs hw_30 hP hD hS => ?_)
        have hP : va_P D vwCl [(q 3, .inr (0, [.ref (q 2), .ref (q 31), .int (nI (a.1 11)), .int b9, .int t9, .int (nI (a.1 15))])), (q 31, .inl (cI, 100, .inl (a.2 5))), (q 2, .inr (2, [.ref (q 20), .ref (q 21), .int (nI (a.1 8)), .int (nI (a.1 14) - 1), .int (nI (a.1 13))])), (q 20, .inl (cZ, 300, .inl (a.2 2))), (q 21, .inl (cI, 300, .inl (a.2 4)))] H := hP.sub [3, 4, 0, 1, 2] rfl
        have hD : va_D A [(q 3, .inr (0, [.ref (q 2), .ref (q 31), .int (nI (a.1 11)), .int b9, .int t9, .int (nI (a.1 15))])), (q 31, .inl (cI, 100, .inl (a.2 5))), (q 2, .inr (2, [.ref (q 20), .ref (q 21), .int (nI (a.1 8)), .int (nI (a.1 14) - 1), .int (nI (a.1 13))])), (q 20, .inl (cZ, 300, .inl (a.2 2))), (q 21, .inl (cI, 300, .inl (a.2 4)))] := hD.sub [3, 4, 0, 1, 2] (by decide) rfl
        by_cases e_30 : a.2 5 (bef f) = nI 1
        · rw [if_pos e_30] at hw_30
          obtain rfl : r_30 = nI 1 := hw_30
          refine k_if_eq (tgt := 48) hx hb (by decide) dX0_outcomeOf_33 (by decide) (fun q => absurd q (by decide)) (fun _ => ?_)
          refine lv_aload_n hx hb dX0_outcomeOf_36 rfl (lv_at hl 2 rfl) ?_
          refine lv_iload_n hx hb dX0_outcomeOf_37 rfl (lv_at hl 0 rfl) ?_
          refine k_callVi (n := 1) (wr := []) (As := [.int (nI (beh f))]) (rest := []) hfix hN hK hP hD hS hA hl.1 (c_X0_isWholeIfAny l D cI cZ q a b9 t9 (beh f) (by first | omega | exact bef_lt (by omega) | exact beh_lt (by omega) (by omega))) gX0_outcomeOf_X0_isWholeIfAny rfl (by decide +kernel) rfl ⟨Nat.le_of_ble_eq_true rfl, Nat.le_of_ble_eq_true rfl⟩ [0, 1, 2, 3, 4] [] rfl rfl (by decide) (by decide) (by decide) 0 rfl rfl rfl (Nat.le_of_ble_eq_true rfl) ⟨Nat.zero_le _, Nat.zero_le _⟩ dX0_outcomeOf_38 (fun r_38 u H locs hw_38 hP hD hS => ?_)
          have hP : va_P D vwCl [(q 3, .inr (0, [.ref (q 2), .ref (q 31), .int (nI (a.1 11)), .int b9, .int t9, .int (nI (a.1 15))])), (q 31, .inl (cI, 100, .inl (a.2 5))), (q 2, .inr (2, [.ref (q 20), .ref (q 21), .int (nI (a.1 8)), .int (nI (a.1 14) - 1), .int (nI (a.1 13))])), (q 20, .inl (cZ, 300, .inl (a.2 2))), (q 21, .inl (cI, 300, .inl (a.2 4)))] H := hP.sub [0, 1, 2, 3, 4] rfl
          have hD : va_D A [(q 3, .inr (0, [.ref (q 2), .ref (q 31), .int (nI (a.1 11)), .int b9, .int t9, .int (nI (a.1 15))])), (q 31, .inl (cI, 100, .inl (a.2 5))), (q 2, .inr (2, [.ref (q 20), .ref (q 21), .int (nI (a.1 8)), .int (nI (a.1 14) - 1), .int (nI (a.1 13))])), (q 20, .inl (cZ, 300, .inl (a.2 2))), (q 21, .inl (cI, 300, .inl (a.2 4)))] := hD.sub [0, 1, 2, 3, 4] (by decide) rfl
          by_cases e_38 : whl (a.2 2) (beh f)
          · rw [if_pos e_38] at hw_38
            obtain rfl : r_38 = nI 1 := hw_38
            refine k_if_eq (tgt := 48) hx hb (by decide) dX0_outcomeOf_41 (by decide) (fun q => absurd q (by decide)) (fun _ => ?_)
            refine lv_iconst (v := nI 1) hx hb dX0_outcomeOf_44 (by decide) ?_
            refine lv_goto (tgt := 49) hx hb dX0_outcomeOf_45 (by decide) ?_
            refine lv_istore (lv' := [(4, .int (nI 1)), (3, .int (nI (beh f))), (2, .int (nI (bef f))), (0, .ref (q 3)), (1, .int (nI f))]) hx hb dX0_outcomeOf_49 hl (by decide) rfl (fun ls hl => ?_)
            refine lv_iload hx hb dX0_outcomeOf_51 (lv_at hl 0 rfl) ?_
            refine k_if_eq (tgt := 60) hx hb (by decide) dX0_outcomeOf_53 (by decide) (fun q => absurd q (by decide)) (fun _ => ?_)
            refine lv_iconst (v := nI 1) hx hb dX0_outcomeOf_56 (by decide) ?_
            refine lv_goto (tgt := 61) hx hb dX0_outcomeOf_57 (by decide) ?_
            exact k_iret (v := nI 1) hx hb hr hlk rfl () (by rw [outc, if_pos e_5, if_pos ⟨Or.inr e_30, Or.inr e_38⟩]) hP hD hS dX0_outcomeOf_61
          · rw [if_neg e_38] at hw_38
            obtain rfl : r_38 = nI 0 := hw_38
            refine k_if_eq (tgt := 48) hx hb (by decide) dX0_outcomeOf_41 (by decide) (fun _ => ?_) (fun q => absurd q (by decide))
            refine lv_iconst (v := nI 0) hx hb dX0_outcomeOf_48 (by decide) ?_
            refine lv_istore (lv' := [(4, .int (nI 0)), (3, .int (nI (beh f))), (2, .int (nI (bef f))), (0, .ref (q 3)), (1, .int (nI f))]) hx hb dX0_outcomeOf_49 hl (by decide) rfl (fun ls hl => ?_)
            refine lv_iload hx hb dX0_outcomeOf_51 (lv_at hl 0 rfl) ?_
            refine k_if_eq (tgt := 60) hx hb (by decide) dX0_outcomeOf_53 (by decide) (fun _ => ?_) (fun q => absurd q (by decide))
            refine lv_iconst (v := nI 3) hx hb dX0_outcomeOf_60 (by decide) ?_
            exact k_iret (v := nI 3) hx hb hr hlk rfl () (by rw [outc, if_pos e_5, if_neg (fun h => h.2.elim e_19 e_38)]) hP hD hS dX0_outcomeOf_61
        · rw [if_neg e_30] at hw_30
          obtain rfl : r_30 = nI 0 := hw_30
          refine k_if_eq (tgt := 48) hx hb (by decide) dX0_outcomeOf_33 (by decide) (fun _ => ?_) (fun q => absurd q (by decide))
          refine lv_iconst (v := nI 0) hx hb dX0_outcomeOf_48 (by decide) ?_
          refine lv_istore (lv' := [(4, .int (nI 0)), (3, .int (nI (beh f))), (2, .int (nI (bef f))), (0, .ref (q 3)), (1, .int (nI f))]) hx hb dX0_outcomeOf_49 hl (by decide) rfl (fun ls hl => ?_)
          refine lv_iload hx hb dX0_outcomeOf_51 (lv_at hl 0 rfl) ?_
          refine k_if_eq (tgt := 60) hx hb (by decide) dX0_outcomeOf_53 (by decide) (fun _ => ?_) (fun q => absurd q (by decide))
          refine lv_iconst (v := nI 3) hx hb dX0_outcomeOf_60 (by decide) ?_
          exact k_iret (v := nI 3) hx hb hr hlk rfl () (by rw [outc, if_pos e_5, if_neg (fun h => h.1.elim e_14 e_30)]) hP hD hS dX0_outcomeOf_61
  · rw [if_neg e_5] at hw_5
    obtain rfl : r_5 = nI 0 := hw_5
    refine k_if_ne (tgt := 13) hx hb (by decide) dX0_outcomeOf_8 (by decide) (fun q => absurd q (by decide)) (fun _ => ?_)
    refine lv_iconst (v := nI 2) hx hb dX0_outcomeOf_11 (by decide) ?_
    exact k_iret (v := nI 2) hx hb hr hlk rfl () (by rw [outc, if_neg e_5]) hP hD hS dX0_outcomeOf_12
set_option maxHeartbeats 4000000 in
set_option maxRecDepth 100000 in
theorem c_X0_wholeAhead (l : Launch) (D : va_G) (cI cZ : ClassId) (q : Nat → Nat) (a : AS) (b9 t9 : Int32) (i11 : a.1 11 ≤ 100) : kMi l yX0_wholeAhead wsX0_wholeAhead 1 22 D (TY cI cZ) [.ref (q 3)] [(q 3, .inr (0, [.ref (q 2), .ref (q 31), .int (nI (a.1 11)), .int b9, .int t9, .int (nI (a.1 15))])), (q 31, .inl (cI, 100, .inl (a.2 5))), (q 2, .inr (2, [.ref (q 20), .ref (q 21), .int (nI (a.1 8)), .int (nI (a.1 14) - 1), .int (nI (a.1 13))])), (q 20, .inl (cZ, 300, .inl (a.2 2))), (q 21, .inl (cI, 300, .inl (a.2 4)))] (fun (r : Int32) (_ : Unit) => r = nI (a_fill a)) (fun (_ : Unit) => FWb cI q a b9 t9 ++ SWa cI cZ q a) := by
  intro sz
  refine k_in (Qc := fun A => va_Qi (fun (r : Int32) (_ : Unit) => r = nI (a_fill a)) (kB D A (fun (_ : Unit) => FWb cI q a b9 t9 ++ SWa cI cZ q a)) A) (cc := cX0_wholeAhead) (maxL := 3) (ret := (some .int)) (by decide) rfl (Nat.le_of_ble_eq_true rfl) ?_
  intro p e s m below meth c A ls hfix hr hlk hN hP hK hD hA hS hl
  have hfix : CallFix p m c cX0_wholeAhead 3 s [.ref (q 3)].toArray wsX0_wholeAhead RX0 := hfix
  have hl : lv_has ls 3 [(0, .ref (q 3))] := hl
  obtain ⟨hx, hb, hml, hown, hts⟩ := id hfix
  have hinX0 : ∀ w ∈ wsX00, w ∈ wsX0_wholeAhead := fun _ h => List.mem_cons_of_mem _ (List.mem_append_left _ (List.mem_append_right _ h))
  have hP : va_P D vwCl [(q 3, .inr (0, [.ref (q 2), .ref (q 31), .int (nI (a.1 11)), .int b9, .int t9, .int (nI (a.1 15))])), (q 31, .inl (cI, 100, .inl (a.2 5))), (q 2, .inr (2, [.ref (q 20), .ref (q 21), .int (nI (a.1 8)), .int (nI (a.1 14) - 1), .int (nI (a.1 13))])), (q 20, .inl (cZ, 300, .inl (a.2 2))), (q 21, .inl (cI, 300, .inl (a.2 4)))] s.heap := hP
  have hD : va_D A [(q 3, .inr (0, [.ref (q 2), .ref (q 31), .int (nI (a.1 11)), .int b9, .int t9, .int (nI (a.1 15))])), (q 31, .inl (cI, 100, .inl (a.2 5))), (q 2, .inr (2, [.ref (q 20), .ref (q 21), .int (nI (a.1 8)), .int (nI (a.1 14) - 1), .int (nI (a.1 13))])), (q 20, .inl (cZ, 300, .inl (a.2 2))), (q 21, .inl (cI, 300, .inl (a.2 4)))] := hD
  have hS : ∃ (H : Heap) (locs : List Loc), H = s.heap ∧ locs = [] ∧ va_S A s.heap H locs := ⟨_, _, rfl, rfl, hS⟩
  obtain ⟨H, locs, hH, hlocs, hS⟩ := hS
  rw [← hH] at hP
  suffices hW9 : W p l e ({ frames := 1, cells := 0, slots := 0, locals := 22 } : Room) s m [.ref (q 3)].toArray below meth c H locs 0 0 (MQ below (va_Qi (fun (r : Int32) (_ : Unit) => r = nI (a_fill a)) (kB D A (fun (_ : Unit) => FWb cI q a b9 t9 ++ SWa cI cZ q a)) A) [.ref (q 3)].toArray s 0 0 A) (F0 m 0 ls []) by rw [hH, hlocs] at hW9; exact hW9
  clear hH hlocs
  have at7 : ∀ (n9 : Nat) (k : Nat) (hf9 : (100 - (a.1 11 + k)) < n9) (h1 : a.1 11 + k ≤ 100) (hk : a_fill a = fillN (a.2 2) (100 - (a.1 11 + k)) (a.1 11 + k) + k) (H : Heap) (locs : List Loc) (ls : Array Slot) (hP : va_P D vwCl [(q 3, .inr (0, [.ref (q 2), .ref (q 31), .int (nI (a.1 11)), .int b9, .int t9, .int (nI (a.1 15))])), (q 31, .inl (cI, 100, .inl (a.2 5))), (q 2, .inr (2, [.ref (q 20), .ref (q 21), .int (nI (a.1 8)), .int (nI (a.1 14) - 1), .int (nI (a.1 13))])), (q 20, .inl (cZ, 300, .inl (a.2 2))), (q 21, .inl (cI, 300, .inl (a.2 4)))] H) (hD : va_D A [(q 3, .inr (0, [.ref (q 2), .ref (q 31), .int (nI (a.1 11)), .int b9, .int t9, .int (nI (a.1 15))])), (q 31, .inl (cI, 100, .inl (a.2 5))), (q 2, .inr (2, [.ref (q 20), .ref (q 21), .int (nI (a.1 8)), .int (nI (a.1 14) - 1), .int (nI (a.1 13))])), (q 20, .inl (cZ, 300, .inl (a.2 2))), (q 21, .inl (cI, 300, .inl (a.2 4)))]) (hS : va_S A s.heap H locs) (hl : lv_has ls 3 [(0, .ref (q 3)), (1, .int (nI k)), (2, .int (nI (a.1 11 + k)))]), W p l e ({ frames := 1, cells := 0, slots := 0, locals := 22 } : Room) s m [.ref (q 3)].toArray below meth c H locs 0 0 (MQ below (va_Qi (fun (r : Int32) (_ : Unit) => r = nI (a_fill a)) (kB D A (fun (_ : Unit) => FWb cI q a b9 t9 ++ SWa cI cZ q a)) A) [.ref (q 3)].toArray s 0 0 A) (F0 m 7 ls []) := by
    intro n9
    induction n9 with
    | zero => intro k hf9 h1 hk H locs ls hP hD hS hl; exact absurd hf9 (Nat.not_lt_zero _)
    | succ n9 ih9 =>
      intro k hf9 h1 hk H locs ls hP hD hS hl
      refine lv_iload_n hx hb dX0_wholeAhead_7 rfl (lv_at hl 2 rfl) ?_
      refine lv_bipush (v := nI 100) hx hb dX0_wholeAhead_8 (by decide) ?_
      refine k_icmp_ge (tgt := 33) hx hb (by omega) (by omega) dX0_wholeAhead_10 (by decide) (fun c_10 => ?_) (fun c_10 => ?_)
      · -- c_10 taken
        refine lv_iload_n hx hb dX0_wholeAhead_33 rfl (lv_at hl 1 rfl) ?_
        exact k_iret (v := nI k) hx hb hr hlk rfl () (by rw [hk, show 100 - (a.1 11 + k) = 0 by omega]; show nI k = nI (0 + k); rw [Nat.zero_add]) hP hD hS dX0_wholeAhead_34
      · -- c_10 not taken
        refine lv_aload_n hx hb dX0_wholeAhead_13 rfl (lv_at hl 0 rfl) ?_
        refine va_get (D := D) (ci := 0) (v := .ref (q 2)) (C := RX0) (T := TX0) (N := 6) hx hb hts hinX0 hown hK hP 0 rfl rfl 0 (by decide) (hts _ (List.mem_of_getElem? (i := 2) rfl)) (fun _ h9 => h9) rfl dX0_wholeAhead_14 ?_
        refine lv_iload_n hx hb dX0_wholeAhead_17 rfl (lv_at hl 2 rfl) ?_
        refine k_callVi (n := 1) (wr := [(q 3, .inr (0, [.ref (q 2), .ref (q 31), .int (nI (a.1 11)), .int b9, .int t9, .int (nI (a.1 15))])), (q 31, .inl (cI, 100, .inl (a.2 5)))]) (As := [.int (nI (a.1 11 + k))]) (rest := []) hfix hN hK hP hD hS hA hl.1 (c_X2_holdsFrame l D cI cZ q a (a.1 11 + k) (by omega)) gX0_wholeAhead_X2_holdsFrame rfl (by decide +kernel) rfl ⟨Nat.le_of_ble_eq_true rfl, Nat.le_of_ble_eq_true rfl⟩ [2, 3, 4] [0, 1] rfl rfl (by decide) (by decide) (by decide) 2 rfl rfl rfl (Nat.le_of_ble_eq_true rfl) ⟨Nat.zero_le _, Nat.zero_le _⟩ dX0_wholeAhead_18 (fun r_18 u H locs hw_18 hP hD hS => ?_)
        have hP : va_P D vwCl [(q 3, .inr (0, [.ref (q 2), .ref (q 31), .int (nI (a.1 11)), .int b9, .int t9, .int (nI (a.1 15))])), (q 31, .inl (cI, 100, .inl (a.2 5))), (q 2, .inr (2, [.ref (q 20), .ref (q 21), .int (nI (a.1 8)), .int (nI (a.1 14) - 1), .int (nI (a.1 13))])), (q 20, .inl (cZ, 300, .inl (a.2 2))), (q 21, .inl (cI, 300, .inl (a.2 4)))] H := hP.sub [0, 1, 2, 3, 4] rfl
        have hD : va_D A [(q 3, .inr (0, [.ref (q 2), .ref (q 31), .int (nI (a.1 11)), .int b9, .int t9, .int (nI (a.1 15))])), (q 31, .inl (cI, 100, .inl (a.2 5))), (q 2, .inr (2, [.ref (q 20), .ref (q 21), .int (nI (a.1 8)), .int (nI (a.1 14) - 1), .int (nI (a.1 13))])), (q 20, .inl (cZ, 300, .inl (a.2 2))), (q 21, .inl (cI, 300, .inl (a.2 4)))] := hD.sub [0, 1, 2, 3, 4] (by decide) rfl
        by_cases e_18 : whl (a.2 2) (a.1 11 + k)
        · rw [if_pos e_18] at hw_18
          obtain rfl : r_18 = nI 1 := hw_18
          refine k_if_eq (tgt := 33) hx hb (by decide) dX0_wholeAhead_21 (by decide) (fun q => absurd q (by decide)) (fun _ => ?_)
          refine lv_iinc (v := nI (k + 1)) (lv' := [(1, .int (nI (k + 1))), (0, .ref (q 3)), (2, .int (nI (a.1 11 + k)))]) hx hb dX0_wholeAhead_24 hl (k := 1) rfl (nI_add k 1) (by decide) rfl (fun ls hl => ?_)
          refine lv_iinc (v := nI (a.1 11 + k + 1)) (lv' := [(2, .int (nI (a.1 11 + k + 1))), (1, .int (nI (k + 1))), (0, .ref (q 3))]) hx hb dX0_wholeAhead_27 hl (k := 2) rfl (nI_add (a.1 11 + k) 1) (by decide) rfl (fun ls hl => ?_)
          refine lv_goto (tgt := 7) hx hb dX0_wholeAhead_30 (by decide) ?_
          exact ih9 (k + 1) (by omega) (by omega) (by rw [hk, fillN_t e_18 (by omega), show 100 - (a.1 11 + k) - 1 = 100 - (a.1 11 + (k + 1)) by omega, show a.1 11 + k + 1 = a.1 11 + (k + 1) from rfl]; omega) H locs ls hP hD hS (lv_sub hl [2, 1, 0] rfl)
        · rw [if_neg e_18] at hw_18
          obtain rfl : r_18 = nI 0 := hw_18
          refine k_if_eq (tgt := 33) hx hb (by decide) dX0_wholeAhead_21 (by decide) (fun _ => ?_) (fun q => absurd q (by decide))
          refine lv_iload_n hx hb dX0_wholeAhead_33 rfl (lv_at hl 1 rfl) ?_
          exact k_iret (v := nI k) hx hb hr hlk rfl () (by rw [hk, fillN_f e_18, Nat.zero_add]) hP hD hS dX0_wholeAhead_34
  refine lv_iconst (v := nI 0) hx hb dX0_wholeAhead_0 (by decide) ?_
  refine lv_istore_n (lv' := [(1, .int (nI 0)), (0, .ref (q 3))]) hx hb dX0_wholeAhead_1 rfl hl (by decide) rfl (fun ls hl => ?_)
  refine lv_aload_n hx hb dX0_wholeAhead_2 rfl (lv_at hl 1 rfl) ?_
  refine va_get (D := D) (ci := 0) (v := .int (nI (a.1 11))) (C := RX0) (T := TX0) (N := 6) hx hb hts hinX0 hown hK hP 0 rfl rfl 2 (by decide) (hts _ (List.mem_of_getElem? (i := 1) rfl)) (fun _ h9 => h9) rfl dX0_wholeAhead_3 ?_
  refine lv_istore_n (lv' := [(2, .int (nI (a.1 11))), (1, .int (nI 0)), (0, .ref (q 3))]) hx hb dX0_wholeAhead_6 rfl hl (by decide) rfl (fun ls hl => ?_)
  exact at7 _ 0 (Nat.lt_succ_self _) i11 rfl H locs ls hP hD hS (lv_sub hl [2, 1, 0] rfl)
set_option maxHeartbeats 4000000 in
set_option maxRecDepth 100000 in
theorem c_X0_pace (l : Launch) (D : va_G) (cI cZ : ClassId) (q : Nat → Nat) (a : AS) (b9 t9 : Int32) (i11 : a.1 11 ≤ 100) : kMi l yX0_pace wsX0_pace 2 44 D (TY cI cZ) [.ref (q 3)] [(q 3, .inr (0, [.ref (q 2), .ref (q 31), .int (nI (a.1 11)), .int b9, .int t9, .int (nI (a.1 15))])), (q 31, .inl (cI, 100, .inl (a.2 5))), (q 2, .inr (2, [.ref (q 20), .ref (q 21), .int (nI (a.1 8)), .int (nI (a.1 14) - 1), .int (nI (a.1 13))])), (q 20, .inl (cZ, 300, .inl (a.2 2))), (q 21, .inl (cI, 300, .inl (a.2 4)))] (fun (r : Int32) (_ : Unit) => r = nI (pac (a_fill a))) (fun (_ : Unit) => FWb cI q a b9 t9 ++ SWa cI cZ q a) := by
  have hf9 : a_fill a ≤ 100 := a_fill_le a
  intro sz
  refine k_in (Qc := fun A => va_Qi (fun (r : Int32) (_ : Unit) => r = nI (pac (a_fill a))) (kB D A (fun (_ : Unit) => FWb cI q a b9 t9 ++ SWa cI cZ q a)) A) (cc := cX0_pace) (maxL := 2) (ret := (some .int)) (by decide) rfl (Nat.le_of_ble_eq_true rfl) ?_
  intro p e s m below meth c A ls hfix hr hlk hN hP hK hD hA hS hl
  have hfix : CallFix p m c cX0_pace 2 s [.ref (q 3)].toArray wsX0_pace RX0 := hfix
  have hl : lv_has ls 2 [(0, .ref (q 3))] := hl
  obtain ⟨hx, hb, hml, hown, hts⟩ := id hfix
  have hP : va_P D vwCl [(q 3, .inr (0, [.ref (q 2), .ref (q 31), .int (nI (a.1 11)), .int b9, .int t9, .int (nI (a.1 15))])), (q 31, .inl (cI, 100, .inl (a.2 5))), (q 2, .inr (2, [.ref (q 20), .ref (q 21), .int (nI (a.1 8)), .int (nI (a.1 14) - 1), .int (nI (a.1 13))])), (q 20, .inl (cZ, 300, .inl (a.2 2))), (q 21, .inl (cI, 300, .inl (a.2 4)))] s.heap := hP
  have hD : va_D A [(q 3, .inr (0, [.ref (q 2), .ref (q 31), .int (nI (a.1 11)), .int b9, .int t9, .int (nI (a.1 15))])), (q 31, .inl (cI, 100, .inl (a.2 5))), (q 2, .inr (2, [.ref (q 20), .ref (q 21), .int (nI (a.1 8)), .int (nI (a.1 14) - 1), .int (nI (a.1 13))])), (q 20, .inl (cZ, 300, .inl (a.2 2))), (q 21, .inl (cI, 300, .inl (a.2 4)))] := hD
  have hS : ∃ (H : Heap) (locs : List Loc), H = s.heap ∧ locs = [] ∧ va_S A s.heap H locs := ⟨_, _, rfl, rfl, hS⟩
  obtain ⟨H, locs, hH, hlocs, hS⟩ := hS
  rw [← hH] at hP
  suffices hW9 : W p l e ({ frames := 2, cells := 0, slots := 0, locals := 44 } : Room) s m [.ref (q 3)].toArray below meth c H locs 0 0 (MQ below (va_Qi (fun (r : Int32) (_ : Unit) => r = nI (pac (a_fill a))) (kB D A (fun (_ : Unit) => FWb cI q a b9 t9 ++ SWa cI cZ q a)) A) [.ref (q 3)].toArray s 0 0 A) (F0 m 0 ls []) by rw [hH, hlocs] at hW9; exact hW9
  clear hH hlocs
  refine lv_aload_n hx hb dX0_pace_0 rfl (lv_at hl 0 rfl) ?_
  refine k_callVi (n := 0) (wr := []) (As := []) (rest := []) hfix hN hK hP hD hS hA hl.1 (c_X0_wholeAhead l D cI cZ q a b9 t9 (by omega)) gX0_pace_X0_wholeAhead rfl (by decide +kernel) rfl ⟨Nat.le_of_ble_eq_true rfl, Nat.le_of_ble_eq_true rfl⟩ [0, 1, 2, 3, 4] [] rfl rfl (by decide) (by decide) (by decide) 0 rfl rfl rfl (Nat.le_of_ble_eq_true rfl) ⟨Nat.zero_le _, Nat.zero_le _⟩ dX0_pace_1 (fun r_1 u H locs hw_1 hP hD hS => ?_)
  have hP : va_P D vwCl [(q 3, .inr (0, [.ref (q 2), .ref (q 31), .int (nI (a.1 11)), .int b9, .int t9, .int (nI (a.1 15))])), (q 31, .inl (cI, 100, .inl (a.2 5))), (q 2, .inr (2, [.ref (q 20), .ref (q 21), .int (nI (a.1 8)), .int (nI (a.1 14) - 1), .int (nI (a.1 13))])), (q 20, .inl (cZ, 300, .inl (a.2 2))), (q 21, .inl (cI, 300, .inl (a.2 4)))] H := hP.sub [0, 1, 2, 3, 4] rfl
  have hD : va_D A [(q 3, .inr (0, [.ref (q 2), .ref (q 31), .int (nI (a.1 11)), .int b9, .int t9, .int (nI (a.1 15))])), (q 31, .inl (cI, 100, .inl (a.2 5))), (q 2, .inr (2, [.ref (q 20), .ref (q 21), .int (nI (a.1 8)), .int (nI (a.1 14) - 1), .int (nI (a.1 13))])), (q 20, .inl (cZ, 300, .inl (a.2 2))), (q 21, .inl (cI, 300, .inl (a.2 4)))] := hD.sub [0, 1, 2, 3, 4] (by decide) rfl
  obtain rfl : r_1 = nI (a_fill a) := hw_1
  refine lv_istore_n (lv' := [(1, .int (nI (a_fill a))), (0, .ref (q 3))]) hx hb dX0_pace_4 rfl hl (by decide) rfl (fun ls hl => ?_)
  refine lv_iload_n hx hb dX0_pace_5 rfl (lv_at hl 0 rfl) ?_
  refine lv_bipush (v := nI 6) hx hb dX0_pace_6 (by decide) ?_
  refine k_icmp_lt (tgt := 14) hx hb (by omega) (by omega) dX0_pace_8 (by decide) (fun c_8 => ?_) (fun c_8 => ?_)
  · -- c_8 taken
    refine lv_iload_n hx hb dX0_pace_14 rfl (lv_at hl 0 rfl) ?_
    refine lv_iconst (v := nI 1) hx hb dX0_pace_15 (by decide) ?_
    refine k_icmp_gt (tgt := 24) hx hb (by omega) (by omega) dX0_pace_16 (by decide) (fun c_16 => ?_) (fun c_16 => ?_)
    · -- c_16 taken
      refine lv_bipush (v := nI 10) hx hb dX0_pace_24 (by decide) ?_
      exact k_iret (v := nI 10) hx hb hr hlk rfl () (by rw [pac, if_neg (by omega), if_neg (by omega)]) hP hD hS dX0_pace_26
    · -- c_16 not taken
      refine lv_bipush (v := nI 11) hx hb dX0_pace_19 (by decide) ?_
      refine lv_goto (tgt := 26) hx hb dX0_pace_21 (by decide) ?_
      exact k_iret (v := nI 11) hx hb hr hlk rfl () (by rw [pac, if_neg (by omega), if_pos c_16]) hP hD hS dX0_pace_26
  · -- c_8 not taken
    refine lv_bipush (v := nI 9) hx hb dX0_pace_11 (by decide) ?_
    exact k_iret (v := nI 9) hx hb hr hlk rfl () (by rw [pac, if_pos c_8]) hP hD hS dX0_pace_13
set_option maxHeartbeats 4000000 in
set_option maxRecDepth 100000 in
theorem c_X0_giveTurn (l : Launch) (D : va_G) (cI cZ : ClassId) (q : Nat → Nat) (a : AS) (t9 : Int32) (hI : AI a) (h9 : ¬ a.1 9 = 0) (h11 : a.1 11 < 100) : kMv l yX0_giveTurn wsX0_giveTurn 3 67 D (TY cI cZ) [.ref (q 3), .int (nI (a.1 7))] [(q 3, .inr (0, [.ref (q 2), .ref (q 31), .int (nI (a.1 11)), .int (bT a), .int t9, .int (nI (a.1 15))])), (q 31, .inl (cI, 100, .inl (a.2 5))), (q 2, .inr (2, [.ref (q 20), .ref (q 21), .int (nI (a.1 8)), .int (nI (a.1 14) - 1), .int (nI (a.1 13))])), (q 20, .inl (cZ, 300, .inl (a.2 2))), (q 21, .inl (cI, 300, .inl (a.2 4)))] (fun (_ : Unit) => True) (fun (_ : Unit) => FWa cI q (a_turn a) ++ SWa cI cZ q (a_turn a)) := by
  obtain ⟨⟨i0, i4, i5, i7, i9, i10, i11, i12⟩, ⟨i1, i2, i3⟩, ⟨i8, i13, i14⟩, iQ, iH0, iH1, iW0, iW1, iN⟩ := id hI
  have ho : outc (a.2 2) (a.2 5) (a.1 11) ≤ 3 := a_out_le a
  intro sz
  refine k_in (Qc := fun A => va_Qv (fun (_ : Unit) => True) (kB D A (fun (_ : Unit) => FWa cI q (a_turn a) ++ SWa cI cZ q (a_turn a))) A) (cc := cX0_giveTurn) (maxL := 3) (ret := none) (by decide) rfl (Nat.le_of_ble_eq_true rfl) ?_
  intro p e s m below meth c A ls hfix hr hlk hN hP hK hD hA hS hl
  have hfix : CallFix p m c cX0_giveTurn 3 s [.ref (q 3), .int (nI (a.1 7))].toArray wsX0_giveTurn RX0 := hfix
  have hl : lv_has ls 3 [(0, .ref (q 3)), (1, .int (nI (a.1 7)))] := hl
  obtain ⟨hx, hb, hml, hown, hts⟩ := id hfix
  have hinX0 : ∀ w ∈ wsX00, w ∈ wsX0_giveTurn := fun _ h => List.mem_cons_of_mem _ (List.mem_append_left _ (List.mem_append_right _ h))
  have hP : va_P D vwCl [(q 3, .inr (0, [.ref (q 2), .ref (q 31), .int (nI (a.1 11)), .int (bT a), .int t9, .int (nI (a.1 15))])), (q 31, .inl (cI, 100, .inl (a.2 5))), (q 2, .inr (2, [.ref (q 20), .ref (q 21), .int (nI (a.1 8)), .int (nI (a.1 14) - 1), .int (nI (a.1 13))])), (q 20, .inl (cZ, 300, .inl (a.2 2))), (q 21, .inl (cI, 300, .inl (a.2 4)))] s.heap := hP
  have hD : va_D A [(q 3, .inr (0, [.ref (q 2), .ref (q 31), .int (nI (a.1 11)), .int (bT a), .int t9, .int (nI (a.1 15))])), (q 31, .inl (cI, 100, .inl (a.2 5))), (q 2, .inr (2, [.ref (q 20), .ref (q 21), .int (nI (a.1 8)), .int (nI (a.1 14) - 1), .int (nI (a.1 13))])), (q 20, .inl (cZ, 300, .inl (a.2 2))), (q 21, .inl (cI, 300, .inl (a.2 4)))] := hD
  have hS : ∃ (H : Heap) (locs : List Loc), H = s.heap ∧ locs = [] ∧ va_S A s.heap H locs := ⟨_, _, rfl, rfl, hS⟩
  obtain ⟨H, locs, hH, hlocs, hS⟩ := hS
  rw [← hH] at hP
  suffices hW9 : W p l e ({ frames := 3, cells := 0, slots := 0, locals := 67 } : Room) s m [.ref (q 3), .int (nI (a.1 7))].toArray below meth c H locs 0 0 (MQ below (va_Qv (fun (_ : Unit) => True) (kB D A (fun (_ : Unit) => FWa cI q (a_turn a) ++ SWa cI cZ q (a_turn a))) A) [.ref (q 3), .int (nI (a.1 7))].toArray s 0 0 A) (F0 m 0 ls []) by rw [hH, hlocs] at hW9; exact hW9
  clear hH hlocs
  have at45 : ∀   (H : Heap) (locs : List Loc) (ls : Array Slot) (hP : va_P D vwCl [(q 3, .inr (0, [.ref (q 2), .ref (q 31), .int (nI (a.1 11)), .int (bT a), .int t9, .int (nI ((a_turn0 a).1 15))])), (q 31, .inl (cI, 100, .inl (upd (a.2 5) (a.1 11) (nI (a_out a))))), (q 2, .inr (2, [.ref (q 20), .ref (q 21), .int (nI (a.1 8)), .int (nI (a.1 14) - 1), .int (nI (a.1 13))])), (q 20, .inl (cZ, 300, .inl (a.2 2))), (q 21, .inl (cI, 300, .inl (a.2 4)))] H) (hD : va_D A [(q 3, .inr (0, [.ref (q 2), .ref (q 31), .int (nI (a.1 11)), .int (bT a), .int t9, .int (nI ((a_turn0 a).1 15))])), (q 31, .inl (cI, 100, .inl (upd (a.2 5) (a.1 11) (nI (a_out a))))), (q 2, .inr (2, [.ref (q 20), .ref (q 21), .int (nI (a.1 8)), .int (nI (a.1 14) - 1), .int (nI (a.1 13))])), (q 20, .inl (cZ, 300, .inl (a.2 2))), (q 21, .inl (cI, 300, .inl (a.2 4)))]) (hS : va_S A s.heap H locs) (hl : lv_has ls 3 [(0, .ref (q 3)), (1, .int (nI (a.1 7)))]), W p l e ({ frames := 3, cells := 0, slots := 0, locals := 67 } : Room) s m [.ref (q 3), .int (nI (a.1 7))].toArray below meth c H locs 0 0 (MQ below (va_Qv (fun (_ : Unit) => True) (kB D A (fun (_ : Unit) => FWa cI q (a_turn a) ++ SWa cI cZ q (a_turn a))) A) [.ref (q 3), .int (nI (a.1 7))].toArray s 0 0 A) (F0 m 45 ls []) := by
    intro H locs ls hP hD hS hl
    refine lv_aload_n hx hb dX0_giveTurn_45 rfl (lv_at hl 0 rfl) ?_
    refine lv_dup hx hb dX0_giveTurn_46 rfl ?_
    refine va_get (D := D) (ci := 0) (v := .int (nI (a.1 11))) (C := RX0) (T := TX0) (N := 6) hx hb hts hinX0 hown hK hP 0 rfl rfl 2 (by decide) (hts _ (List.mem_of_getElem? (i := 1) rfl)) (fun _ h9 => h9) rfl dX0_giveTurn_47 ?_
    refine lv_iconst (v := nI 1) hx hb dX0_giveTurn_50 (by decide) ?_
    refine k_iadd hx hb dX0_giveTurn_51 ?_
    refine va_put (D := D) (ci := 0) (v := .int (nI ((a.1 11) + 1))) (ty := .int) (C := RX0) (T := TX0) (N := 6) hx hb hts hinX0 tyX0 tyX0_ok nmX0 hown hK hP hD hS 0 rfl rfl 2 (by decide) (hts _ (List.mem_of_getElem? (i := 1) rfl)) (fun _ h9 => h9) rfl (by decide +kernel) rfl rfl (Nat.le_of_ble_eq_true rfl) dX0_giveTurn_52 (fun H locs hP hD hS => ?_)
    have hP : va_P D vwCl [(q 3, .inr (0, [.ref (q 2), .ref (q 31), .int (nI ((a.1 11) + 1)), .int (bT a), .int t9, .int (nI ((a_turn0 a).1 15))])), (q 31, .inl (cI, 100, .inl (upd (a.2 5) (a.1 11) (nI (a_out a))))), (q 2, .inr (2, [.ref (q 20), .ref (q 21), .int (nI (a.1 8)), .int (nI (a.1 14) - 1), .int (nI (a.1 13))])), (q 20, .inl (cZ, 300, .inl (a.2 2))), (q 21, .inl (cI, 300, .inl (a.2 4)))] H := hP
    have hD : va_D A [(q 3, .inr (0, [.ref (q 2), .ref (q 31), .int (nI ((a.1 11) + 1)), .int (bT a), .int t9, .int (nI ((a_turn0 a).1 15))])), (q 31, .inl (cI, 100, .inl (upd (a.2 5) (a.1 11) (nI (a_out a))))), (q 2, .inr (2, [.ref (q 20), .ref (q 21), .int (nI (a.1 8)), .int (nI (a.1 14) - 1), .int (nI (a.1 13))])), (q 20, .inl (cZ, 300, .inl (a.2 2))), (q 21, .inl (cI, 300, .inl (a.2 4)))] := hD
    refine lv_aload_n hx hb dX0_giveTurn_55 rfl (lv_at hl 0 rfl) ?_
    refine lv_aload_n hx hb dX0_giveTurn_56 rfl (lv_at hl 0 rfl) ?_
    refine va_get (D := D) (ci := 0) (v := .int (nI ((a.1 11) + 1))) (C := RX0) (T := TX0) (N := 6) hx hb hts hinX0 hown hK hP 0 rfl rfl 2 (by decide) (hts _ (List.mem_of_getElem? (i := 1) rfl)) (fun _ h9 => h9) rfl dX0_giveTurn_57 ?_
    refine lv_bipush (v := nI 100) hx hb dX0_giveTurn_60 (by decide) ?_
    refine k_icmp_ge (tgt := 74) hx hb (by omega) (by omega) dX0_giveTurn_62 (by decide) (fun c_62 => ?_) (fun c_62 => ?_)
    · -- c_62 taken
      refine lv_iconst (v := (-1)) hx hb dX0_giveTurn_74 (by decide) ?_
      refine va_put (D := D) (ci := 0) (v := .int (-1)) (ty := .int) (C := RX0) (T := TX0) (N := 6) hx hb hts hinX0 tyX0 tyX0_ok nmX0 hown hK hP hD hS 0 rfl rfl 4 (by decide) (hts _ (List.mem_of_getElem? (i := 4) rfl)) (fun _ h9 => h9) rfl (by decide +kernel) rfl rfl (Nat.le_of_ble_eq_true rfl) dX0_giveTurn_75 (fun H locs hP hD hS => ?_)
      have hP : va_P D vwCl [(q 3, .inr (0, [.ref (q 2), .ref (q 31), .int (nI ((a.1 11) + 1)), .int (bT a), .int (-1), .int (nI ((a_turn0 a).1 15))])), (q 31, .inl (cI, 100, .inl (upd (a.2 5) (a.1 11) (nI (a_out a))))), (q 2, .inr (2, [.ref (q 20), .ref (q 21), .int (nI (a.1 8)), .int (nI (a.1 14) - 1), .int (nI (a.1 13))])), (q 20, .inl (cZ, 300, .inl (a.2 2))), (q 21, .inl (cI, 300, .inl (a.2 4)))] H := hP
      have hD : va_D A [(q 3, .inr (0, [.ref (q 2), .ref (q 31), .int (nI ((a.1 11) + 1)), .int (bT a), .int (-1), .int (nI ((a_turn0 a).1 15))])), (q 31, .inl (cI, 100, .inl (upd (a.2 5) (a.1 11) (nI (a_out a))))), (q 2, .inr (2, [.ref (q 20), .ref (q 21), .int (nI (a.1 8)), .int (nI (a.1 14) - 1), .int (nI (a.1 13))])), (q 20, .inl (cZ, 300, .inl (a.2 2))), (q 21, .inl (cI, 300, .inl (a.2 4)))] := hD
      exact k_vret hx hb hr hlk () trivial (by unfold FWa; rw [show tT (a_turn a) = -1 from if_pos (Or.inr c_62)]; exact hP) (by unfold FWa; rw [show tT (a_turn a) = -1 from if_pos (Or.inr c_62)]; exact hD) hS dX0_giveTurn_78
    · -- c_62 not taken
      refine lv_iload_n hx hb dX0_giveTurn_65 rfl (lv_at hl 1 rfl) ?_
      refine lv_aload_n hx hb dX0_giveTurn_66 rfl (lv_at hl 0 rfl) ?_
      refine k_callVi (n := 0) (wr := []) (As := []) (rest := [.int (nI (a.1 7)), .ref (q 3)]) hfix hN hK hP hD hS hA hl.1 (c_X0_pace l D cI cZ q (a_turn0 a) (bT a) t9 (show a.1 11 + 1 ≤ 100 by omega)) gX0_giveTurn_X0_pace rfl (by decide +kernel) rfl ⟨Nat.le_of_ble_eq_true rfl, Nat.le_of_ble_eq_true rfl⟩ [0, 1, 2, 3, 4] [] rfl rfl (by decide) (by decide) (by decide) 0 rfl rfl rfl (Nat.le_of_ble_eq_true rfl) ⟨Nat.zero_le _, Nat.zero_le _⟩ dX0_giveTurn_67 (fun r_67 u H locs hw_67 hP hD hS => ?_)
      have hP : va_P D vwCl [(q 3, .inr (0, [.ref (q 2), .ref (q 31), .int (nI ((a.1 11) + 1)), .int (bT a), .int t9, .int (nI ((a_turn0 a).1 15))])), (q 31, .inl (cI, 100, .inl (upd (a.2 5) (a.1 11) (nI (a_out a))))), (q 2, .inr (2, [.ref (q 20), .ref (q 21), .int (nI (a.1 8)), .int (nI (a.1 14) - 1), .int (nI (a.1 13))])), (q 20, .inl (cZ, 300, .inl (a.2 2))), (q 21, .inl (cI, 300, .inl (a.2 4)))] H := hP.sub [0, 1, 2, 3, 4] rfl
      have hD : va_D A [(q 3, .inr (0, [.ref (q 2), .ref (q 31), .int (nI ((a.1 11) + 1)), .int (bT a), .int t9, .int (nI ((a_turn0 a).1 15))])), (q 31, .inl (cI, 100, .inl (upd (a.2 5) (a.1 11) (nI (a_out a))))), (q 2, .inr (2, [.ref (q 20), .ref (q 21), .int (nI (a.1 8)), .int (nI (a.1 14) - 1), .int (nI (a.1 13))])), (q 20, .inl (cZ, 300, .inl (a.2 2))), (q 21, .inl (cI, 300, .inl (a.2 4)))] := hD.sub [0, 1, 2, 3, 4] (by decide) rfl
      obtain rfl : r_67 = nI (pac (a_fill (a_turn0 a))) := hw_67
      refine k_iadd hx hb dX0_giveTurn_70 ?_
      refine lv_goto (tgt := 75) hx hb dX0_giveTurn_71 (by decide) ?_
      refine va_put (D := D) (ci := 0) (v := .int (nI ((a.1 7) + (pac (a_fill (a_turn0 a)))))) (ty := .int) (C := RX0) (T := TX0) (N := 6) hx hb hts hinX0 tyX0 tyX0_ok nmX0 hown hK hP hD hS 0 rfl rfl 4 (by decide) (hts _ (List.mem_of_getElem? (i := 4) rfl)) (fun _ h9 => h9) rfl (by decide +kernel) rfl rfl (Nat.le_of_ble_eq_true rfl) dX0_giveTurn_75 (fun H locs hP hD hS => ?_)
      have hP : va_P D vwCl [(q 3, .inr (0, [.ref (q 2), .ref (q 31), .int (nI ((a.1 11) + 1)), .int (bT a), .int (nI ((a.1 7) + (pac (a_fill (a_turn0 a))))), .int (nI ((a_turn0 a).1 15))])), (q 31, .inl (cI, 100, .inl (upd (a.2 5) (a.1 11) (nI (a_out a))))), (q 2, .inr (2, [.ref (q 20), .ref (q 21), .int (nI (a.1 8)), .int (nI (a.1 14) - 1), .int (nI (a.1 13))])), (q 20, .inl (cZ, 300, .inl (a.2 2))), (q 21, .inl (cI, 300, .inl (a.2 4)))] H := hP
      have hD : va_D A [(q 3, .inr (0, [.ref (q 2), .ref (q 31), .int (nI ((a.1 11) + 1)), .int (bT a), .int (nI ((a.1 7) + (pac (a_fill (a_turn0 a))))), .int (nI ((a_turn0 a).1 15))])), (q 31, .inl (cI, 100, .inl (upd (a.2 5) (a.1 11) (nI (a_out a))))), (q 2, .inr (2, [.ref (q 20), .ref (q 21), .int (nI (a.1 8)), .int (nI (a.1 14) - 1), .int (nI (a.1 13))])), (q 20, .inl (cZ, 300, .inl (a.2 2))), (q 21, .inl (cI, 300, .inl (a.2 4)))] := hD
      exact k_vret hx hb hr hlk () trivial (by unfold FWa; rw [show tT (a_turn a) = nI (a.1 7 + pac (a_fill (a_turn0 a))) from if_neg (fun h => h.elim h9 (fun h => absurd h (Nat.not_le.mpr c_62)))]; exact hP) (by unfold FWa; rw [show tT (a_turn a) = nI (a.1 7 + pac (a_fill (a_turn0 a))) from if_neg (fun h => h.elim h9 (fun h => absurd h (Nat.not_le.mpr c_62)))]; exact hD) hS dX0_giveTurn_78
  refine lv_aload_n hx hb dX0_giveTurn_0 rfl (lv_at hl 0 rfl) ?_
  refine va_get (D := D) (ci := 0) (v := .int (nI (a.1 11))) (C := RX0) (T := TX0) (N := 6) hx hb hts hinX0 hown hK hP 0 rfl rfl 2 (by decide) (hts _ (List.mem_of_getElem? (i := 1) rfl)) (fun _ h9 => h9) rfl dX0_giveTurn_1 ?_
  refine k_callNi (n := 1) (As := [.int (nI (a.1 11))]) (rest := []) hfix hN hK hP hD hS hA hl.1 (c_X3_isFrame l D cI cZ (nI (a.1 11))) (fun _ => rfl) gX0_giveTurn_X3_isFrame_n50 rfl hN.m50 (hts _ (List.mem_of_getElem? (i := 6) rfl)) (hts _ (List.mem_of_getElem? (i := 5) rfl)) (by decide +kernel) rfl ⟨Nat.le_of_ble_eq_true rfl, Nat.le_of_ble_eq_true rfl⟩ [0, 1, 2, 3, 4] rfl (by decide) rfl (Nat.le_of_ble_eq_true rfl) ⟨Nat.zero_le _, Nat.zero_le _⟩ dX0_giveTurn_4 (fun r_4 u H locs hw_4 hP hD hS => ?_)
  have e_4 : (inR (nI (a.1 11)) 100) := (nI_inR (by decide) h11)
  rw [if_pos e_4] at hw_4
  obtain rfl : r_4 = nI 1 := hw_4
  refine k_if_ne (tgt := 11) hx hb (by decide) dX0_giveTurn_7 (by decide) (fun _ => ?_) (fun q => absurd q (by decide))
  refine lv_aload_n hx hb dX0_giveTurn_11 rfl (lv_at hl 0 rfl) ?_
  refine lv_aload_n hx hb dX0_giveTurn_12 rfl (lv_at hl 0 rfl) ?_
  refine va_get (D := D) (ci := 0) (v := .int (nI (a.1 11))) (C := RX0) (T := TX0) (N := 6) hx hb hts hinX0 hown hK hP 0 rfl rfl 2 (by decide) (hts _ (List.mem_of_getElem? (i := 1) rfl)) (fun _ h9 => h9) rfl dX0_giveTurn_13 ?_
  refine k_callVi (n := 1) (wr := []) (As := [.int (nI (a.1 11))]) (rest := []) hfix hN hK hP hD hS hA hl.1 (c_X0_outcomeOf l D cI cZ q a (bT a) t9 (a.1 11) (by omega)) gX0_giveTurn_X0_outcomeOf rfl (by decide +kernel) rfl ⟨Nat.le_of_ble_eq_true rfl, Nat.le_of_ble_eq_true rfl⟩ [0, 1, 2, 3, 4] [] rfl rfl (by decide) (by decide) (by decide) 0 rfl rfl rfl (Nat.le_of_ble_eq_true rfl) ⟨Nat.zero_le _, Nat.zero_le _⟩ dX0_giveTurn_16 (fun r_16 u H locs hw_16 hP hD hS => ?_)
  have hP : va_P D vwCl [(q 3, .inr (0, [.ref (q 2), .ref (q 31), .int (nI (a.1 11)), .int (bT a), .int t9, .int (nI (a.1 15))])), (q 31, .inl (cI, 100, .inl (a.2 5))), (q 2, .inr (2, [.ref (q 20), .ref (q 21), .int (nI (a.1 8)), .int (nI (a.1 14) - 1), .int (nI (a.1 13))])), (q 20, .inl (cZ, 300, .inl (a.2 2))), (q 21, .inl (cI, 300, .inl (a.2 4)))] H := hP.sub [0, 1, 2, 3, 4] rfl
  have hD : va_D A [(q 3, .inr (0, [.ref (q 2), .ref (q 31), .int (nI (a.1 11)), .int (bT a), .int t9, .int (nI (a.1 15))])), (q 31, .inl (cI, 100, .inl (a.2 5))), (q 2, .inr (2, [.ref (q 20), .ref (q 21), .int (nI (a.1 8)), .int (nI (a.1 14) - 1), .int (nI (a.1 13))])), (q 20, .inl (cZ, 300, .inl (a.2 2))), (q 21, .inl (cI, 300, .inl (a.2 4)))] := hD.sub [0, 1, 2, 3, 4] (by decide) rfl
  obtain rfl : r_16 = nI (outc (a.2 2) (a.2 5) (a.1 11)) := hw_16
  refine lv_istore_n (lv' := [(2, .int (nI (outc (a.2 2) (a.2 5) (a.1 11)))), (0, .ref (q 3)), (1, .int (nI (a.1 7)))]) hx hb dX0_giveTurn_19 rfl hl (by decide) rfl (fun ls hl => ?_)
  refine lv_aload_n hx hb dX0_giveTurn_20 rfl (lv_at hl 1 rfl) ?_
  refine va_get (D := D) (ci := 0) (v := .ref (q 31)) (C := RX0) (T := TX0) (N := 6) hx hb hts hinX0 hown hK hP 0 rfl rfl 1 (by decide) (hts _ (List.mem_of_getElem? (i := 2) rfl)) (fun _ h9 => h9) rfl dX0_giveTurn_21 ?_
  refine lv_aload_n hx hb dX0_giveTurn_24 rfl (lv_at hl 1 rfl) ?_
  refine va_get (D := D) (ci := 0) (v := .int (nI (a.1 11))) (C := RX0) (T := TX0) (N := 6) hx hb hts hinX0 hown hK hP 0 rfl rfl 2 (by decide) (hts _ (List.mem_of_getElem? (i := 1) rfl)) (fun _ h9 => h9) rfl dX0_giveTurn_25 ?_
  refine lv_iload_n hx hb dX0_giveTurn_28 rfl (lv_at hl 0 rfl) ?_
  refine k_iast hx hb hK hP hD hS 1 0 rfl rfl (by omega) (Nat.le_of_ble_eq_true rfl) dX0_giveTurn_29 (fun H locs hP hD hS => ?_)
  have hP : va_P D vwCl [(q 3, .inr (0, [.ref (q 2), .ref (q 31), .int (nI (a.1 11)), .int (bT a), .int t9, .int (nI (a.1 15))])), (q 31, .inl (cI, 100, .inl (upd (a.2 5) (a.1 11) (nI (outc (a.2 2) (a.2 5) (a.1 11)))))), (q 2, .inr (2, [.ref (q 20), .ref (q 21), .int (nI (a.1 8)), .int (nI (a.1 14) - 1), .int (nI (a.1 13))])), (q 20, .inl (cZ, 300, .inl (a.2 2))), (q 21, .inl (cI, 300, .inl (a.2 4)))] H := hP
  have hD : va_D A [(q 3, .inr (0, [.ref (q 2), .ref (q 31), .int (nI (a.1 11)), .int (bT a), .int t9, .int (nI (a.1 15))])), (q 31, .inl (cI, 100, .inl (upd (a.2 5) (a.1 11) (nI (outc (a.2 2) (a.2 5) (a.1 11)))))), (q 2, .inr (2, [.ref (q 20), .ref (q 21), .int (nI (a.1 8)), .int (nI (a.1 14) - 1), .int (nI (a.1 13))])), (q 20, .inl (cZ, 300, .inl (a.2 2))), (q 21, .inl (cI, 300, .inl (a.2 4)))] := hD
  refine lv_iload_n hx hb dX0_giveTurn_30 rfl (lv_at hl 0 rfl) ?_
  refine lv_iconst (v := nI 1) hx hb dX0_giveTurn_31 (by decide) ?_
  refine k_icmp_ne (tgt := 45) hx hb (by omega) (by omega) dX0_giveTurn_32 (by decide) (fun c_32 => ?_) (fun c_32 => ?_)
  · -- c_32 taken
    exact at45 H locs ls (by rw [show (a_turn0 a).1 15 = a.1 15 from if_neg c_32]; exact hP) (by rw [show (a_turn0 a).1 15 = a.1 15 from if_neg c_32]; exact hD) hS (lv_sub hl [1, 2] rfl)
  · -- c_32 not taken
    refine lv_aload_n hx hb dX0_giveTurn_35 rfl (lv_at hl 1 rfl) ?_
    refine lv_dup hx hb dX0_giveTurn_36 rfl ?_
    refine va_get (D := D) (ci := 0) (v := .int (nI (a.1 15))) (C := RX0) (T := TX0) (N := 6) hx hb hts hinX0 hown hK hP 0 rfl rfl 5 (by decide) (hts _ (List.mem_of_getElem? (i := 3) rfl)) (fun _ h9 => h9) rfl dX0_giveTurn_37 ?_
    refine lv_iconst (v := nI 1) hx hb dX0_giveTurn_40 (by decide) ?_
    refine k_iadd hx hb dX0_giveTurn_41 ?_
    refine va_put (D := D) (ci := 0) (v := .int (nI ((a.1 15) + 1))) (ty := .int) (C := RX0) (T := TX0) (N := 6) hx hb hts hinX0 tyX0 tyX0_ok nmX0 hown hK hP hD hS 0 rfl rfl 5 (by decide) (hts _ (List.mem_of_getElem? (i := 3) rfl)) (fun _ h9 => h9) rfl (by decide +kernel) rfl rfl (Nat.le_of_ble_eq_true rfl) dX0_giveTurn_42 (fun H locs hP hD hS => ?_)
    have hP : va_P D vwCl [(q 3, .inr (0, [.ref (q 2), .ref (q 31), .int (nI (a.1 11)), .int (bT a), .int t9, .int (nI ((a.1 15) + 1))])), (q 31, .inl (cI, 100, .inl (upd (a.2 5) (a.1 11) (nI (outc (a.2 2) (a.2 5) (a.1 11)))))), (q 2, .inr (2, [.ref (q 20), .ref (q 21), .int (nI (a.1 8)), .int (nI (a.1 14) - 1), .int (nI (a.1 13))])), (q 20, .inl (cZ, 300, .inl (a.2 2))), (q 21, .inl (cI, 300, .inl (a.2 4)))] H := hP
    have hD : va_D A [(q 3, .inr (0, [.ref (q 2), .ref (q 31), .int (nI (a.1 11)), .int (bT a), .int t9, .int (nI ((a.1 15) + 1))])), (q 31, .inl (cI, 100, .inl (upd (a.2 5) (a.1 11) (nI (outc (a.2 2) (a.2 5) (a.1 11)))))), (q 2, .inr (2, [.ref (q 20), .ref (q 21), .int (nI (a.1 8)), .int (nI (a.1 14) - 1), .int (nI (a.1 13))])), (q 20, .inl (cZ, 300, .inl (a.2 2))), (q 21, .inl (cI, 300, .inl (a.2 4)))] := hD
    exact at45 H locs ls (by rw [show (a_turn0 a).1 15 = a.1 15 + 1 from if_pos c_32]; exact hP) (by rw [show (a_turn0 a).1 15 = a.1 15 + 1 from if_pos c_32]; exact hD) hS (lv_sub hl [1, 2] rfl)
set_option maxHeartbeats 4000000 in
set_option maxRecDepth 100000 in
theorem c_X0_play (l : Launch) (D : va_G) (cI cZ : ClassId) (q : Nat → Nat) (a : AS) (hI : AI a) : kMv l yX0_play wsX0_play 4 89 D (TY cI cZ) [.ref (q 3), .int (nI (a.1 7))] [(q 3, .inr (0, [.ref (q 2), .ref (q 31), .int (nI (a.1 11)), .int (bT a), .int (tT a), .int (nI (a.1 15))])), (q 31, .inl (cI, 100, .inl (a.2 5))), (q 2, .inr (2, [.ref (q 20), .ref (q 21), .int (nI (a.1 8)), .int (nI (a.1 14) - 1), .int (nI (a.1 13))])), (q 20, .inl (cZ, 300, .inl (a.2 2))), (q 21, .inl (cI, 300, .inl (a.2 4)))] (fun (_ : Unit) => True) (fun (_ : Unit) => FWa cI q (a_play a) ++ SWa cI cZ q (a_play a)) := by
  obtain ⟨⟨i0, i4, i5, i7, i9, i10, i11, i12⟩, ⟨i1, i2, i3⟩, ⟨i8, i13, i14⟩, iQ, iH0, iH1, iW0, iW1, iN⟩ := id hI
  have hIb : AI (a_begin a) := ⟨⟨i0, i4, i5, i7, Nat.le_refl 1, i7, i11, i12⟩, ⟨i1, i2, i3⟩, ⟨i8, i13, i14⟩, iQ, iH0, iH1, iW0, iW1, fun h => absurd h (show ¬ 1 = 0 by decide)⟩
  intro sz
  refine k_in (Qc := fun A => va_Qv (fun (_ : Unit) => True) (kB D A (fun (_ : Unit) => FWa cI q (a_play a) ++ SWa cI cZ q (a_play a))) A) (cc := cX0_play) (maxL := 2) (ret := none) (by decide) rfl (Nat.le_of_ble_eq_true rfl) ?_
  intro p e s m below meth c A ls hfix hr hlk hN hP hK hD hA hS hl
  have hfix : CallFix p m c cX0_play 2 s [.ref (q 3), .int (nI (a.1 7))].toArray wsX0_play RX0 := hfix
  have hl : lv_has ls 2 [(0, .ref (q 3)), (1, .int (nI (a.1 7)))] := hl
  obtain ⟨hx, hb, hml, hown, hts⟩ := id hfix
  have hinX0 : ∀ w ∈ wsX00, w ∈ wsX0_play := fun _ h => List.mem_cons_of_mem _ (List.mem_append_left _ (List.mem_append_right _ h))
  have hP : va_P D vwCl [(q 3, .inr (0, [.ref (q 2), .ref (q 31), .int (nI (a.1 11)), .int (bT a), .int (tT a), .int (nI (a.1 15))])), (q 31, .inl (cI, 100, .inl (a.2 5))), (q 2, .inr (2, [.ref (q 20), .ref (q 21), .int (nI (a.1 8)), .int (nI (a.1 14) - 1), .int (nI (a.1 13))])), (q 20, .inl (cZ, 300, .inl (a.2 2))), (q 21, .inl (cI, 300, .inl (a.2 4)))] s.heap := hP
  have hD : va_D A [(q 3, .inr (0, [.ref (q 2), .ref (q 31), .int (nI (a.1 11)), .int (bT a), .int (tT a), .int (nI (a.1 15))])), (q 31, .inl (cI, 100, .inl (a.2 5))), (q 2, .inr (2, [.ref (q 20), .ref (q 21), .int (nI (a.1 8)), .int (nI (a.1 14) - 1), .int (nI (a.1 13))])), (q 20, .inl (cZ, 300, .inl (a.2 2))), (q 21, .inl (cI, 300, .inl (a.2 4)))] := hD
  have hS : ∃ (H : Heap) (locs : List Loc), H = s.heap ∧ locs = [] ∧ va_S A s.heap H locs := ⟨_, _, rfl, rfl, hS⟩
  obtain ⟨H, locs, hH, hlocs, hS⟩ := hS
  rw [← hH] at hP
  suffices hW9 : W p l e ({ frames := 4, cells := 0, slots := 0, locals := 89 } : Room) s m [.ref (q 3), .int (nI (a.1 7))].toArray below meth c H locs 0 0 (MQ below (va_Qv (fun (_ : Unit) => True) (kB D A (fun (_ : Unit) => FWa cI q (a_play a) ++ SWa cI cZ q (a_play a))) A) [.ref (q 3), .int (nI (a.1 7))].toArray s 0 0 A) (F0 m 0 ls []) by rw [hH, hlocs] at hW9; exact hW9
  clear hH hlocs
  refine lv_aload_n hx hb dX0_play_0 rfl (lv_at hl 0 rfl) ?_
  refine va_get (D := D) (ci := 0) (v := .int (bT a)) (C := RX0) (T := TX0) (N := 6) hx hb hts hinX0 hown hK hP 0 rfl rfl 3 (by decide) (hts _ (List.mem_of_getElem? (i := 1) rfl)) (fun _ h9 => h9) rfl dX0_play_1 ?_
  refine lv_iconst (v := (-1)) hx hb dX0_play_4 (by decide) ?_
  refine lv_icmp_ne (tgt := 25) hx hb dX0_play_5 (by decide) (fun c_5 => ?_) (fun c_5 => ?_)
  · -- c_5 taken
    have h9 : ¬ a.1 9 = 0 := fun h => c_5 ((bT_m1 (by omega)).mpr h)
    refine lv_aload_n hx hb dX0_play_25 rfl (lv_at hl 0 rfl) ?_
    refine va_get (D := D) (ci := 0) (v := .int (tT a)) (C := RX0) (T := TX0) (N := 6) hx hb hts hinX0 hown hK hP 0 rfl rfl 4 (by decide) (hts _ (List.mem_of_getElem? (i := 2) rfl)) (fun _ h9 => h9) rfl dX0_play_26 ?_
    refine lv_iload_n hx hb dX0_play_29 rfl (lv_at hl 1 rfl) ?_
    refine lv_icmp_ne (tgt := 38) hx hb dX0_play_30 (by decide) (fun c_30 => ?_) (fun c_30 => ?_)
    · -- c_30 taken
      exact k_vret hx hb hr hlk () trivial (by rw [show a_play a = a from by rw [a_play, if_neg h9, if_neg (fun h => c_30 ((tT_t (by omega) (by omega)).mpr ⟨h9, h⟩))]]; exact hP) (by rw [show a_play a = a from by rw [a_play, if_neg h9, if_neg (fun h => c_30 ((tT_t (by omega) (by omega)).mpr ⟨h9, h⟩))]]; exact hD) hS dX0_play_38
    · -- c_30 not taken
      refine lv_aload_n hx hb dX0_play_33 rfl (lv_at hl 0 rfl) ?_
      refine lv_iload_n hx hb dX0_play_34 rfl (lv_at hl 1 rfl) ?_
      refine k_callVv (n := 1) (wr := []) (As := [.int (nI (a.1 7))]) (rest := []) hfix hN hK hP hD hS hA hl.1 (c_X0_giveTurn l D cI cZ q a (tT a) hI h9 ((tT_t (by omega) (by omega)).mp c_30).2.1) gX0_play_X0_giveTurn rfl (by decide +kernel) rfl ⟨Nat.le_of_ble_eq_true rfl, Nat.le_of_ble_eq_true rfl⟩ [0, 1, 2, 3, 4] [] rfl rfl (by decide) (by decide) (by decide) 0 rfl rfl rfl (Nat.le_of_ble_eq_true rfl) ⟨Nat.zero_le _, Nat.zero_le _⟩ dX0_play_35 (fun u H locs hw_35 hP hD hS => ?_)
      have hP : va_P D vwCl [(q 3, .inr (0, [.ref (q 2), .ref (q 31), .int (nI ((a_turn a).1 11)), .int (bT (a_turn a)), .int (tT (a_turn a)), .int (nI ((a_turn a).1 15))])), (q 31, .inl (cI, 100, .inl ((a_turn a).2 5))), (q 2, .inr (2, [.ref (q 20), .ref (q 21), .int (nI ((a_turn a).1 8)), .int (nI ((a_turn a).1 14) - 1), .int (nI ((a_turn a).1 13))])), (q 20, .inl (cZ, 300, .inl ((a_turn a).2 2))), (q 21, .inl (cI, 300, .inl ((a_turn a).2 4)))] H := hP.sub [0, 1, 2, 3, 4] rfl
      have hD : va_D A [(q 3, .inr (0, [.ref (q 2), .ref (q 31), .int (nI ((a_turn a).1 11)), .int (bT (a_turn a)), .int (tT (a_turn a)), .int (nI ((a_turn a).1 15))])), (q 31, .inl (cI, 100, .inl ((a_turn a).2 5))), (q 2, .inr (2, [.ref (q 20), .ref (q 21), .int (nI ((a_turn a).1 8)), .int (nI ((a_turn a).1 14) - 1), .int (nI ((a_turn a).1 13))])), (q 20, .inl (cZ, 300, .inl ((a_turn a).2 2))), (q 21, .inl (cI, 300, .inl ((a_turn a).2 4)))] := hD.sub [0, 1, 2, 3, 4] (by decide) rfl
      exact k_vret hx hb hr hlk () trivial (by rw [show a_play a = a_turn a from by rw [a_play, if_neg h9, if_pos ((tT_t (by omega) (by omega)).mp c_30).2]]; exact hP) (by rw [show a_play a = a_turn a from by rw [a_play, if_neg h9, if_pos ((tT_t (by omega) (by omega)).mp c_30).2]]; exact hD) hS dX0_play_38
  · -- c_5 not taken
    have h9 : a.1 9 = 0 := (bT_m1 (by omega)).mp c_5
    refine lv_aload_n hx hb dX0_play_8 rfl (lv_at hl 0 rfl) ?_
    refine k_callVi (n := 0) (wr := []) (As := []) (rest := []) hfix hN hK hP hD hS hA hl.1 (c_X0_canBegin l D cI cZ q a (bT a) (tT a) ) gX0_play_X0_canBegin rfl (by decide +kernel) rfl ⟨Nat.le_of_ble_eq_true rfl, Nat.le_of_ble_eq_true rfl⟩ [0, 1, 2, 3, 4] [] rfl rfl (by decide) (by decide) (by decide) 0 rfl rfl rfl (Nat.le_of_ble_eq_true rfl) ⟨Nat.zero_le _, Nat.zero_le _⟩ dX0_play_9 (fun r_9 u H locs hw_9 hP hD hS => ?_)
    have hP : va_P D vwCl [(q 3, .inr (0, [.ref (q 2), .ref (q 31), .int (nI (a.1 11)), .int (bT a), .int (tT a), .int (nI (a.1 15))])), (q 31, .inl (cI, 100, .inl (a.2 5))), (q 2, .inr (2, [.ref (q 20), .ref (q 21), .int (nI (a.1 8)), .int (nI (a.1 14) - 1), .int (nI (a.1 13))])), (q 20, .inl (cZ, 300, .inl (a.2 2))), (q 21, .inl (cI, 300, .inl (a.2 4)))] H := hP.sub [0, 1, 2, 3, 4] rfl
    have hD : va_D A [(q 3, .inr (0, [.ref (q 2), .ref (q 31), .int (nI (a.1 11)), .int (bT a), .int (tT a), .int (nI (a.1 15))])), (q 31, .inl (cI, 100, .inl (a.2 5))), (q 2, .inr (2, [.ref (q 20), .ref (q 21), .int (nI (a.1 8)), .int (nI (a.1 14) - 1), .int (nI (a.1 13))])), (q 20, .inl (cZ, 300, .inl (a.2 2))), (q 21, .inl (cI, 300, .inl (a.2 4)))] := hD.sub [0, 1, 2, 3, 4] (by decide) rfl
    by_cases e_9 : whl (a.2 2) 0 ∧ whl (a.2 2) 1 ∧ whl (a.2 2) 2
    · rw [if_pos e_9] at hw_9
      obtain rfl : r_9 = nI 1 := hw_9
      refine k_if_eq (tgt := 25) hx hb (by decide) dX0_play_12 (by decide) (fun q => absurd q (by decide)) (fun _ => ?_)
      refine lv_aload_n hx hb dX0_play_15 rfl (lv_at hl 0 rfl) ?_
      refine lv_iload_n hx hb dX0_play_16 rfl (lv_at hl 1 rfl) ?_
      refine va_put (D := D) (ci := 0) (v := .int (nI (a.1 7))) (ty := .int) (C := RX0) (T := TX0) (N := 6) hx hb hts hinX0 tyX0 tyX0_ok nmX0 hown hK hP hD hS 0 rfl rfl 3 (by decide) (hts _ (List.mem_of_getElem? (i := 1) rfl)) (fun _ h9 => h9) rfl (by decide +kernel) rfl rfl (Nat.le_of_ble_eq_true rfl) dX0_play_17 (fun H locs hP hD hS => ?_)
      have hP : va_P D vwCl [(q 3, .inr (0, [.ref (q 2), .ref (q 31), .int (nI (a.1 11)), .int (nI (a.1 7)), .int (tT a), .int (nI (a.1 15))])), (q 31, .inl (cI, 100, .inl (a.2 5))), (q 2, .inr (2, [.ref (q 20), .ref (q 21), .int (nI (a.1 8)), .int (nI (a.1 14) - 1), .int (nI (a.1 13))])), (q 20, .inl (cZ, 300, .inl (a.2 2))), (q 21, .inl (cI, 300, .inl (a.2 4)))] H := hP
      have hD : va_D A [(q 3, .inr (0, [.ref (q 2), .ref (q 31), .int (nI (a.1 11)), .int (nI (a.1 7)), .int (tT a), .int (nI (a.1 15))])), (q 31, .inl (cI, 100, .inl (a.2 5))), (q 2, .inr (2, [.ref (q 20), .ref (q 21), .int (nI (a.1 8)), .int (nI (a.1 14) - 1), .int (nI (a.1 13))])), (q 20, .inl (cZ, 300, .inl (a.2 2))), (q 21, .inl (cI, 300, .inl (a.2 4)))] := hD
      refine lv_aload_n hx hb dX0_play_20 rfl (lv_at hl 0 rfl) ?_
      refine lv_iload_n hx hb dX0_play_21 rfl (lv_at hl 1 rfl) ?_
      refine va_put (D := D) (ci := 0) (v := .int (nI (a.1 7))) (ty := .int) (C := RX0) (T := TX0) (N := 6) hx hb hts hinX0 tyX0 tyX0_ok nmX0 hown hK hP hD hS 0 rfl rfl 4 (by decide) (hts _ (List.mem_of_getElem? (i := 2) rfl)) (fun _ h9 => h9) rfl (by decide +kernel) rfl rfl (Nat.le_of_ble_eq_true rfl) dX0_play_22 (fun H locs hP hD hS => ?_)
      have hP : va_P D vwCl [(q 3, .inr (0, [.ref (q 2), .ref (q 31), .int (nI (a.1 11)), .int (nI (a.1 7)), .int (nI (a.1 7)), .int (nI (a.1 15))])), (q 31, .inl (cI, 100, .inl (a.2 5))), (q 2, .inr (2, [.ref (q 20), .ref (q 21), .int (nI (a.1 8)), .int (nI (a.1 14) - 1), .int (nI (a.1 13))])), (q 20, .inl (cZ, 300, .inl (a.2 2))), (q 21, .inl (cI, 300, .inl (a.2 4)))] H := hP
      have hD : va_D A [(q 3, .inr (0, [.ref (q 2), .ref (q 31), .int (nI (a.1 11)), .int (nI (a.1 7)), .int (nI (a.1 7)), .int (nI (a.1 15))])), (q 31, .inl (cI, 100, .inl (a.2 5))), (q 2, .inr (2, [.ref (q 20), .ref (q 21), .int (nI (a.1 8)), .int (nI (a.1 14) - 1), .int (nI (a.1 13))])), (q 20, .inl (cZ, 300, .inl (a.2 2))), (q 21, .inl (cI, 300, .inl (a.2 4)))] := hD
      refine lv_aload_n hx hb dX0_play_25 rfl (lv_at hl 0 rfl) ?_
      refine va_get (D := D) (ci := 0) (v := .int (nI (a.1 7))) (C := RX0) (T := TX0) (N := 6) hx hb hts hinX0 hown hK hP 0 rfl rfl 4 (by decide) (hts _ (List.mem_of_getElem? (i := 2) rfl)) (fun _ h9 => h9) rfl dX0_play_26 ?_
      refine lv_iload_n hx hb dX0_play_29 rfl (lv_at hl 1 rfl) ?_
      refine k_icmp_ne (tgt := 38) hx hb (by omega) (by omega) dX0_play_30 (by decide) (fun c_30 => absurd c_30 (fun h => h rfl)) (fun c_30 => ?_)
      refine lv_aload_n hx hb dX0_play_33 rfl (lv_at hl 0 rfl) ?_
      refine lv_iload_n hx hb dX0_play_34 rfl (lv_at hl 1 rfl) ?_
      refine k_callVv (n := 1) (wr := []) (As := [.int (nI (a.1 7))]) (rest := []) hfix hN hK hP hD hS hA hl.1 (c_X0_giveTurn l D cI cZ q (a_begin a) (nI (a.1 7)) hIb (show ¬ 1 = 0 by decide) (show a.1 11 < 100 by omega)) gX0_play_X0_giveTurn rfl (by decide +kernel) rfl ⟨Nat.le_of_ble_eq_true rfl, Nat.le_of_ble_eq_true rfl⟩ [0, 1, 2, 3, 4] [] rfl rfl (by decide) (by decide) (by decide) 0 rfl rfl rfl (Nat.le_of_ble_eq_true rfl) ⟨Nat.zero_le _, Nat.zero_le _⟩ dX0_play_35 (fun u H locs hw_35 hP hD hS => ?_)
      have hP : va_P D vwCl [(q 3, .inr (0, [.ref (q 2), .ref (q 31), .int (nI ((a_turn (a_begin a)).1 11)), .int (bT (a_turn (a_begin a))), .int (tT (a_turn (a_begin a))), .int (nI ((a_turn (a_begin a)).1 15))])), (q 31, .inl (cI, 100, .inl ((a_turn (a_begin a)).2 5))), (q 2, .inr (2, [.ref (q 20), .ref (q 21), .int (nI ((a_turn (a_begin a)).1 8)), .int (nI ((a_turn (a_begin a)).1 14) - 1), .int (nI ((a_turn (a_begin a)).1 13))])), (q 20, .inl (cZ, 300, .inl ((a_turn (a_begin a)).2 2))), (q 21, .inl (cI, 300, .inl ((a_turn (a_begin a)).2 4)))] H := hP.sub [0, 1, 2, 3, 4] rfl
      have hD : va_D A [(q 3, .inr (0, [.ref (q 2), .ref (q 31), .int (nI ((a_turn (a_begin a)).1 11)), .int (bT (a_turn (a_begin a))), .int (tT (a_turn (a_begin a))), .int (nI ((a_turn (a_begin a)).1 15))])), (q 31, .inl (cI, 100, .inl ((a_turn (a_begin a)).2 5))), (q 2, .inr (2, [.ref (q 20), .ref (q 21), .int (nI ((a_turn (a_begin a)).1 8)), .int (nI ((a_turn (a_begin a)).1 14) - 1), .int (nI ((a_turn (a_begin a)).1 13))])), (q 20, .inl (cZ, 300, .inl ((a_turn (a_begin a)).2 2))), (q 21, .inl (cI, 300, .inl ((a_turn (a_begin a)).2 4)))] := hD.sub [0, 1, 2, 3, 4] (by decide) rfl
      exact k_vret hx hb hr hlk () trivial (by rw [show a_play a = a_turn (a_begin a) from by rw [a_play, if_pos h9, if_pos e_9]]; exact hP) (by rw [show a_play a = a_turn (a_begin a) from by rw [a_play, if_pos h9, if_pos e_9]]; exact hD) hS dX0_play_38
    · rw [if_neg e_9] at hw_9
      obtain rfl : r_9 = nI 0 := hw_9
      refine k_if_eq (tgt := 25) hx hb (by decide) dX0_play_12 (by decide) (fun _ => ?_) (fun q => absurd q (by decide))
      refine lv_aload_n hx hb dX0_play_25 rfl (lv_at hl 0 rfl) ?_
      refine va_get (D := D) (ci := 0) (v := .int (tT a)) (C := RX0) (T := TX0) (N := 6) hx hb hts hinX0 hown hK hP 0 rfl rfl 4 (by decide) (hts _ (List.mem_of_getElem? (i := 2) rfl)) (fun _ h9 => h9) rfl dX0_play_26 ?_
      refine lv_iload_n hx hb dX0_play_29 rfl (lv_at hl 1 rfl) ?_
      refine lv_icmp_ne (tgt := 38) hx hb dX0_play_30 (by decide) (fun c_30 => ?_) (fun c_30 => absurd c_30 (fun h => ((tT_t (by omega) (by omega)).mp h).1 h9))
      exact k_vret hx hb hr hlk () trivial (by rw [show a_play a = a from by rw [a_play, if_pos h9, if_neg e_9]]; exact hP) (by rw [show a_play a = a from by rw [a_play, if_pos h9, if_neg e_9]]; exact hD) hS dX0_play_38
set_option maxHeartbeats 4000000 in
set_option maxRecDepth 100000 in
theorem c_X0_countShowable (l : Launch) (D : va_G) (cI cZ : ClassId) (q : Nat → Nat) (a : AS) (b9 t9 : Int32) (i11 : a.1 11 ≤ 100) : kMi l yX0_countShowable wsX0_countShowable 3 64 D (TY cI cZ) [.ref (q 3)] [(q 3, .inr (0, [.ref (q 2), .ref (q 31), .int (nI (a.1 11)), .int b9, .int t9, .int (nI (a.1 15))])), (q 31, .inl (cI, 100, .inl (a.2 5))), (q 2, .inr (2, [.ref (q 20), .ref (q 21), .int (nI (a.1 8)), .int (nI (a.1 14) - 1), .int (nI (a.1 13))])), (q 20, .inl (cZ, 300, .inl (a.2 2))), (q 21, .inl (cI, 300, .inl (a.2 4)))] (fun (r : Int32) (_ : Unit) => r = nI (cldN (a.2 2) (a.1 11))) (fun (_ : Unit) => FWb cI q a b9 t9 ++ SWa cI cZ q a) := by
  intro sz
  refine k_in (Qc := fun A => va_Qi (fun (r : Int32) (_ : Unit) => r = nI (cldN (a.2 2) (a.1 11))) (kB D A (fun (_ : Unit) => FWb cI q a b9 t9 ++ SWa cI cZ q a)) A) (cc := cX0_countShowable) (maxL := 3) (ret := (some .int)) (by decide) rfl (Nat.le_of_ble_eq_true rfl) ?_
  intro p e s m below meth c A ls hfix hr hlk hN hP hK hD hA hS hl
  have hfix : CallFix p m c cX0_countShowable 3 s [.ref (q 3)].toArray wsX0_countShowable RX0 := hfix
  have hl : lv_has ls 3 [(0, .ref (q 3))] := hl
  obtain ⟨hx, hb, hml, hown, hts⟩ := id hfix
  have hinX0 : ∀ w ∈ wsX00, w ∈ wsX0_countShowable := fun _ h => List.mem_cons_of_mem _ (List.mem_append_left _ (List.mem_append_right _ h))
  have hP : va_P D vwCl [(q 3, .inr (0, [.ref (q 2), .ref (q 31), .int (nI (a.1 11)), .int b9, .int t9, .int (nI (a.1 15))])), (q 31, .inl (cI, 100, .inl (a.2 5))), (q 2, .inr (2, [.ref (q 20), .ref (q 21), .int (nI (a.1 8)), .int (nI (a.1 14) - 1), .int (nI (a.1 13))])), (q 20, .inl (cZ, 300, .inl (a.2 2))), (q 21, .inl (cI, 300, .inl (a.2 4)))] s.heap := hP
  have hD : va_D A [(q 3, .inr (0, [.ref (q 2), .ref (q 31), .int (nI (a.1 11)), .int b9, .int t9, .int (nI (a.1 15))])), (q 31, .inl (cI, 100, .inl (a.2 5))), (q 2, .inr (2, [.ref (q 20), .ref (q 21), .int (nI (a.1 8)), .int (nI (a.1 14) - 1), .int (nI (a.1 13))])), (q 20, .inl (cZ, 300, .inl (a.2 2))), (q 21, .inl (cI, 300, .inl (a.2 4)))] := hD
  have hS : ∃ (H : Heap) (locs : List Loc), H = s.heap ∧ locs = [] ∧ va_S A s.heap H locs := ⟨_, _, rfl, rfl, hS⟩
  obtain ⟨H, locs, hH, hlocs, hS⟩ := hS
  rw [← hH] at hP
  suffices hW9 : W p l e ({ frames := 3, cells := 0, slots := 0, locals := 64 } : Room) s m [.ref (q 3)].toArray below meth c H locs 0 0 (MQ below (va_Qi (fun (r : Int32) (_ : Unit) => r = nI (cldN (a.2 2) (a.1 11))) (kB D A (fun (_ : Unit) => FWb cI q a b9 t9 ++ SWa cI cZ q a)) A) [.ref (q 3)].toArray s 0 0 A) (F0 m 0 ls []) by rw [hH, hlocs] at hW9; exact hW9
  clear hH hlocs
  have at4 : ∀ (n9 : Nat) (k : Nat) (m9 : Nat) (hf9 : (a.1 11 - k) < n9) (h1 : k ≤ a.1 11) (hm : m9 = cldN (a.2 2) k) (H : Heap) (locs : List Loc) (ls : Array Slot) (hP : va_P D vwCl [(q 3, .inr (0, [.ref (q 2), .ref (q 31), .int (nI (a.1 11)), .int b9, .int t9, .int (nI (a.1 15))])), (q 31, .inl (cI, 100, .inl (a.2 5))), (q 2, .inr (2, [.ref (q 20), .ref (q 21), .int (nI (a.1 8)), .int (nI (a.1 14) - 1), .int (nI (a.1 13))])), (q 20, .inl (cZ, 300, .inl (a.2 2))), (q 21, .inl (cI, 300, .inl (a.2 4)))] H) (hD : va_D A [(q 3, .inr (0, [.ref (q 2), .ref (q 31), .int (nI (a.1 11)), .int b9, .int t9, .int (nI (a.1 15))])), (q 31, .inl (cI, 100, .inl (a.2 5))), (q 2, .inr (2, [.ref (q 20), .ref (q 21), .int (nI (a.1 8)), .int (nI (a.1 14) - 1), .int (nI (a.1 13))])), (q 20, .inl (cZ, 300, .inl (a.2 2))), (q 21, .inl (cI, 300, .inl (a.2 4)))]) (hS : va_S A s.heap H locs) (hl : lv_has ls 3 [(0, .ref (q 3)), (1, .int (nI m9)), (2, .int (nI k))]), W p l e ({ frames := 3, cells := 0, slots := 0, locals := 64 } : Room) s m [.ref (q 3)].toArray below meth c H locs 0 0 (MQ below (va_Qi (fun (r : Int32) (_ : Unit) => r = nI (cldN (a.2 2) (a.1 11))) (kB D A (fun (_ : Unit) => FWb cI q a b9 t9 ++ SWa cI cZ q a)) A) [.ref (q 3)].toArray s 0 0 A) (F0 m 4 ls []) := by
    intro n9
    induction n9 with
    | zero => intro k m9 hf9 h1 hm H locs ls hP hD hS hl; exact absurd hf9 (Nat.not_lt_zero _)
    | succ n9 ih9 =>
      intro k m9 hf9 h1 hm H locs ls hP hD hS hl
      refine lv_iload_n hx hb dX0_countShowable_4 rfl (lv_at hl 2 rfl) ?_
      refine lv_aload_n hx hb dX0_countShowable_5 rfl (lv_at hl 0 rfl) ?_
      refine va_get (D := D) (ci := 0) (v := .int (nI (a.1 11))) (C := RX0) (T := TX0) (N := 6) hx hb hts hinX0 hown hK hP 0 rfl rfl 2 (by decide) (hts _ (List.mem_of_getElem? (i := 1) rfl)) (fun _ h9 => h9) rfl dX0_countShowable_6 ?_
      refine k_icmp_ge (tgt := 54) hx hb (by omega) (by omega) dX0_countShowable_9 (by decide) (fun c_9 => ?_) (fun c_9 => ?_)
      · -- c_9 taken
        refine lv_iload_n hx hb dX0_countShowable_54 rfl (lv_at hl 1 rfl) ?_
        exact k_iret (v := nI m9) hx hb hr hlk rfl () (by rw [hm, show k = a.1 11 by omega]) hP hD hS dX0_countShowable_55
      · -- c_9 not taken
        refine lv_aload_n hx hb dX0_countShowable_12 rfl (lv_at hl 0 rfl) ?_
        refine va_get (D := D) (ci := 0) (v := .ref (q 2)) (C := RX0) (T := TX0) (N := 6) hx hb hts hinX0 hown hK hP 0 rfl rfl 0 (by decide) (hts _ (List.mem_of_getElem? (i := 2) rfl)) (fun _ h9 => h9) rfl dX0_countShowable_13 ?_
        refine lv_iload_n hx hb dX0_countShowable_16 rfl (lv_at hl 2 rfl) ?_
        refine k_callVi (n := 1) (wr := [(q 3, .inr (0, [.ref (q 2), .ref (q 31), .int (nI (a.1 11)), .int b9, .int t9, .int (nI (a.1 15))])), (q 31, .inl (cI, 100, .inl (a.2 5)))]) (As := [.int (nI k)]) (rest := []) hfix hN hK hP hD hS hA hl.1 (c_X2_holdsFrame l D cI cZ q a k (by omega)) gX0_countShowable_X2_holdsFrame rfl (by decide +kernel) rfl ⟨Nat.le_of_ble_eq_true rfl, Nat.le_of_ble_eq_true rfl⟩ [2, 3, 4] [0, 1] rfl rfl (by decide) (by decide) (by decide) 2 rfl rfl rfl (Nat.le_of_ble_eq_true rfl) ⟨Nat.zero_le _, Nat.zero_le _⟩ dX0_countShowable_17 (fun r_17 u H locs hw_17 hP hD hS => ?_)
        have hP : va_P D vwCl [(q 3, .inr (0, [.ref (q 2), .ref (q 31), .int (nI (a.1 11)), .int b9, .int t9, .int (nI (a.1 15))])), (q 31, .inl (cI, 100, .inl (a.2 5))), (q 2, .inr (2, [.ref (q 20), .ref (q 21), .int (nI (a.1 8)), .int (nI (a.1 14) - 1), .int (nI (a.1 13))])), (q 20, .inl (cZ, 300, .inl (a.2 2))), (q 21, .inl (cI, 300, .inl (a.2 4)))] H := hP.sub [0, 1, 2, 3, 4] rfl
        have hD : va_D A [(q 3, .inr (0, [.ref (q 2), .ref (q 31), .int (nI (a.1 11)), .int b9, .int t9, .int (nI (a.1 15))])), (q 31, .inl (cI, 100, .inl (a.2 5))), (q 2, .inr (2, [.ref (q 20), .ref (q 21), .int (nI (a.1 8)), .int (nI (a.1 14) - 1), .int (nI (a.1 13))])), (q 20, .inl (cZ, 300, .inl (a.2 2))), (q 21, .inl (cI, 300, .inl (a.2 4)))] := hD.sub [0, 1, 2, 3, 4] (by decide) rfl
        by_cases e_17 : whl (a.2 2) k
        · rw [if_pos e_17] at hw_17
          obtain rfl : r_17 = nI 1 := hw_17
          refine k_if_eq (tgt := 48) hx hb (by decide) dX0_countShowable_20 (by decide) (fun q => absurd q (by decide)) (fun _ => ?_)
          refine lv_aload_n hx hb dX0_countShowable_23 rfl (lv_at hl 0 rfl) ?_
          refine lv_iload_n hx hb dX0_countShowable_24 rfl (lv_at hl 2 rfl) ?_
          refine k_callSi (n := 1) (As := [.int (nI k)]) (rest := [.ref (q 3)]) hfix hN hK hP hD hS hA hl.1 (c_X0_needBefore l D cI cZ k (by omega)) (fun _ => rfl) gX0_countShowable_X0_needBefore rfl (by decide +kernel) rfl ⟨Nat.le_of_ble_eq_true rfl, Nat.le_of_ble_eq_true rfl⟩ [0, 1, 2, 3, 4] rfl (by decide) rfl (Nat.le_of_ble_eq_true rfl) ⟨Nat.zero_le _, Nat.zero_le _⟩ dX0_countShowable_25 (fun r_25 u H locs hw_25 hP hD hS => ?_)
          by_cases e_25 : k % 6 = 0
          · rw [if_pos e_25] at hw_25
            obtain rfl : r_25 = (-1) := hw_25
            refine k_callVi (n := 1) (wr := []) (As := [.int (-1)]) (rest := []) hfix hN hK hP hD hS hA hl.1 (c_X0_isAnchorShowable0 l D cI cZ q a b9 t9 ) gX0_countShowable_X0_isAnchorShowable rfl (by decide +kernel) rfl ⟨Nat.le_of_ble_eq_true rfl, Nat.le_of_ble_eq_true rfl⟩ [0, 1, 2, 3, 4] [] rfl rfl (by decide) (by decide) (by decide) 0 rfl rfl rfl (Nat.le_of_ble_eq_true rfl) ⟨Nat.zero_le _, Nat.zero_le _⟩ dX0_countShowable_28 (fun r_28 u H locs hw_28 hP hD hS => ?_)
            have hP : va_P D vwCl [(q 3, .inr (0, [.ref (q 2), .ref (q 31), .int (nI (a.1 11)), .int b9, .int t9, .int (nI (a.1 15))])), (q 31, .inl (cI, 100, .inl (a.2 5))), (q 2, .inr (2, [.ref (q 20), .ref (q 21), .int (nI (a.1 8)), .int (nI (a.1 14) - 1), .int (nI (a.1 13))])), (q 20, .inl (cZ, 300, .inl (a.2 2))), (q 21, .inl (cI, 300, .inl (a.2 4)))] H := hP.sub [0, 1, 2, 3, 4] rfl
            have hD : va_D A [(q 3, .inr (0, [.ref (q 2), .ref (q 31), .int (nI (a.1 11)), .int b9, .int t9, .int (nI (a.1 15))])), (q 31, .inl (cI, 100, .inl (a.2 5))), (q 2, .inr (2, [.ref (q 20), .ref (q 21), .int (nI (a.1 8)), .int (nI (a.1 14) - 1), .int (nI (a.1 13))])), (q 20, .inl (cZ, 300, .inl (a.2 2))), (q 21, .inl (cI, 300, .inl (a.2 4)))] := hD.sub [0, 1, 2, 3, 4] (by decide) rfl
            obtain rfl : r_28 = nI 1 := hw_28
            refine k_if_eq (tgt := 48) hx hb (by decide) dX0_countShowable_31 (by decide) (fun q => absurd q (by decide)) (fun _ => ?_)
            refine lv_aload_n hx hb dX0_countShowable_34 rfl (lv_at hl 0 rfl) ?_
            refine lv_iload_n hx hb dX0_countShowable_35 rfl (lv_at hl 2 rfl) ?_
            refine k_callSi (n := 1) (As := [.int (nI k)]) (rest := [.ref (q 3)]) hfix hN hK hP hD hS hA hl.1 (c_X0_needBehind l D cI cZ k (by omega)) (fun _ => rfl) gX0_countShowable_X0_needBehind rfl (by decide +kernel) rfl ⟨Nat.le_of_ble_eq_true rfl, Nat.le_of_ble_eq_true rfl⟩ [0, 1, 2, 3, 4] rfl (by decide) rfl (Nat.le_of_ble_eq_true rfl) ⟨Nat.zero_le _, Nat.zero_le _⟩ dX0_countShowable_36 (fun r_36 u H locs hw_36 hP hD hS => ?_)
            by_cases e_36 : k % 3 = 0
            · rw [if_pos e_36] at hw_36
              obtain rfl : r_36 = (-1) := hw_36
              refine k_callVi (n := 1) (wr := []) (As := [.int (-1)]) (rest := []) hfix hN hK hP hD hS hA hl.1 (c_X0_isAnchorShowable0 l D cI cZ q a b9 t9 ) gX0_countShowable_X0_isAnchorShowable rfl (by decide +kernel) rfl ⟨Nat.le_of_ble_eq_true rfl, Nat.le_of_ble_eq_true rfl⟩ [0, 1, 2, 3, 4] [] rfl rfl (by decide) (by decide) (by decide) 0 rfl rfl rfl (Nat.le_of_ble_eq_true rfl) ⟨Nat.zero_le _, Nat.zero_le _⟩ dX0_countShowable_39 (fun r_39 u H locs hw_39 hP hD hS => ?_)
              have hP : va_P D vwCl [(q 3, .inr (0, [.ref (q 2), .ref (q 31), .int (nI (a.1 11)), .int b9, .int t9, .int (nI (a.1 15))])), (q 31, .inl (cI, 100, .inl (a.2 5))), (q 2, .inr (2, [.ref (q 20), .ref (q 21), .int (nI (a.1 8)), .int (nI (a.1 14) - 1), .int (nI (a.1 13))])), (q 20, .inl (cZ, 300, .inl (a.2 2))), (q 21, .inl (cI, 300, .inl (a.2 4)))] H := hP.sub [0, 1, 2, 3, 4] rfl
              have hD : va_D A [(q 3, .inr (0, [.ref (q 2), .ref (q 31), .int (nI (a.1 11)), .int b9, .int t9, .int (nI (a.1 15))])), (q 31, .inl (cI, 100, .inl (a.2 5))), (q 2, .inr (2, [.ref (q 20), .ref (q 21), .int (nI (a.1 8)), .int (nI (a.1 14) - 1), .int (nI (a.1 13))])), (q 20, .inl (cZ, 300, .inl (a.2 2))), (q 21, .inl (cI, 300, .inl (a.2 4)))] := hD.sub [0, 1, 2, 3, 4] (by decide) rfl
              obtain rfl : r_39 = nI 1 := hw_39
              refine k_if_eq (tgt := 48) hx hb (by decide) dX0_countShowable_42 (by decide) (fun q => absurd q (by decide)) (fun _ => ?_)
              refine lv_iinc (v := nI (m9 + 1)) (lv' := [(1, .int (nI (m9 + 1))), (0, .ref (q 3)), (2, .int (nI k))]) hx hb dX0_countShowable_45 hl (k := 1) rfl (nI_add m9 1) (by decide) rfl (fun ls hl => ?_)
              refine lv_iinc (v := nI (k + 1)) (lv' := [(2, .int (nI (k + 1))), (1, .int (nI (m9 + 1))), (0, .ref (q 3))]) hx hb dX0_countShowable_48 hl (k := 2) rfl (nI_add k 1) (by decide) rfl (fun ls hl => ?_)
              refine lv_goto (tgt := 4) hx hb dX0_countShowable_51 (by decide) ?_
              exact ih9 (k + 1) (m9 + 1) (by omega) (by omega) (by rw [cldN, if_pos ⟨e_17, Or.inl e_25, Or.inl e_36⟩, hm]) H locs ls hP hD hS (lv_sub hl [2, 1, 0] rfl)
            · rw [if_neg e_36] at hw_36
              obtain rfl : r_36 = nI (beh k) := hw_36
              refine k_callVi (n := 1) (wr := []) (As := [.int (nI (beh k))]) (rest := []) hfix hN hK hP hD hS hA hl.1 (c_X0_isAnchorShowable l D cI cZ q a b9 t9 (beh k) (by first | omega | exact bef_lt (by omega) | exact beh_lt (by omega) (by omega))) gX0_countShowable_X0_isAnchorShowable rfl (by decide +kernel) rfl ⟨Nat.le_of_ble_eq_true rfl, Nat.le_of_ble_eq_true rfl⟩ [0, 1, 2, 3, 4] [] rfl rfl (by decide) (by decide) (by decide) 0 rfl rfl rfl (Nat.le_of_ble_eq_true rfl) ⟨Nat.zero_le _, Nat.zero_le _⟩ dX0_countShowable_39 (fun r_39 u H locs hw_39 hP hD hS => ?_)
              have hP : va_P D vwCl [(q 3, .inr (0, [.ref (q 2), .ref (q 31), .int (nI (a.1 11)), .int b9, .int t9, .int (nI (a.1 15))])), (q 31, .inl (cI, 100, .inl (a.2 5))), (q 2, .inr (2, [.ref (q 20), .ref (q 21), .int (nI (a.1 8)), .int (nI (a.1 14) - 1), .int (nI (a.1 13))])), (q 20, .inl (cZ, 300, .inl (a.2 2))), (q 21, .inl (cI, 300, .inl (a.2 4)))] H := hP.sub [0, 1, 2, 3, 4] rfl
              have hD : va_D A [(q 3, .inr (0, [.ref (q 2), .ref (q 31), .int (nI (a.1 11)), .int b9, .int t9, .int (nI (a.1 15))])), (q 31, .inl (cI, 100, .inl (a.2 5))), (q 2, .inr (2, [.ref (q 20), .ref (q 21), .int (nI (a.1 8)), .int (nI (a.1 14) - 1), .int (nI (a.1 13))])), (q 20, .inl (cZ, 300, .inl (a.2 2))), (q 21, .inl (cI, 300, .inl (a.2 4)))] := hD.sub [0, 1, 2, 3, 4] (by decide) rfl
              by_cases e_39 : cldA (a.2 2) (beh k)
              · rw [if_pos e_39] at hw_39
                obtain rfl : r_39 = nI 1 := hw_39
                refine k_if_eq (tgt := 48) hx hb (by decide) dX0_countShowable_42 (by decide) (fun q => absurd q (by decide)) (fun _ => ?_)
                refine lv_iinc (v := nI (m9 + 1)) (lv' := [(1, .int (nI (m9 + 1))), (0, .ref (q 3)), (2, .int (nI k))]) hx hb dX0_countShowable_45 hl (k := 1) rfl (nI_add m9 1) (by decide) rfl (fun ls hl => ?_)
                refine lv_iinc (v := nI (k + 1)) (lv' := [(2, .int (nI (k + 1))), (1, .int (nI (m9 + 1))), (0, .ref (q 3))]) hx hb dX0_countShowable_48 hl (k := 2) rfl (nI_add k 1) (by decide) rfl (fun ls hl => ?_)
                refine lv_goto (tgt := 4) hx hb dX0_countShowable_51 (by decide) ?_
                exact ih9 (k + 1) (m9 + 1) (by omega) (by omega) (by rw [cldN, if_pos ⟨e_17, Or.inl e_25, Or.inr e_39⟩, hm]) H locs ls hP hD hS (lv_sub hl [2, 1, 0] rfl)
              · rw [if_neg e_39] at hw_39
                obtain rfl : r_39 = nI 0 := hw_39
                refine k_if_eq (tgt := 48) hx hb (by decide) dX0_countShowable_42 (by decide) (fun _ => ?_) (fun q => absurd q (by decide))
                refine lv_iinc (v := nI (k + 1)) (lv' := [(2, .int (nI (k + 1))), (0, .ref (q 3)), (1, .int (nI m9))]) hx hb dX0_countShowable_48 hl (k := 2) rfl (nI_add k 1) (by decide) rfl (fun ls hl => ?_)
                refine lv_goto (tgt := 4) hx hb dX0_countShowable_51 (by decide) ?_
                exact ih9 (k + 1) m9 (by omega) (by omega) (by rw [cldN, if_neg (fun h => h.2.2.elim e_36 e_39), hm]) H locs ls hP hD hS (lv_sub hl [1, 2, 0] rfl)
          · rw [if_neg e_25] at hw_25
            obtain rfl : r_25 = nI (bef k) := hw_25
            refine k_callVi (n := 1) (wr := []) (As := [.int (nI (bef k))]) (rest := []) hfix hN hK hP hD hS hA hl.1 (c_X0_isAnchorShowable l D cI cZ q a b9 t9 (bef k) (by first | omega | exact bef_lt (by omega) | exact beh_lt (by omega) (by omega))) gX0_countShowable_X0_isAnchorShowable rfl (by decide +kernel) rfl ⟨Nat.le_of_ble_eq_true rfl, Nat.le_of_ble_eq_true rfl⟩ [0, 1, 2, 3, 4] [] rfl rfl (by decide) (by decide) (by decide) 0 rfl rfl rfl (Nat.le_of_ble_eq_true rfl) ⟨Nat.zero_le _, Nat.zero_le _⟩ dX0_countShowable_28 (fun r_28 u H locs hw_28 hP hD hS => ?_)
            have hP : va_P D vwCl [(q 3, .inr (0, [.ref (q 2), .ref (q 31), .int (nI (a.1 11)), .int b9, .int t9, .int (nI (a.1 15))])), (q 31, .inl (cI, 100, .inl (a.2 5))), (q 2, .inr (2, [.ref (q 20), .ref (q 21), .int (nI (a.1 8)), .int (nI (a.1 14) - 1), .int (nI (a.1 13))])), (q 20, .inl (cZ, 300, .inl (a.2 2))), (q 21, .inl (cI, 300, .inl (a.2 4)))] H := hP.sub [0, 1, 2, 3, 4] rfl
            have hD : va_D A [(q 3, .inr (0, [.ref (q 2), .ref (q 31), .int (nI (a.1 11)), .int b9, .int t9, .int (nI (a.1 15))])), (q 31, .inl (cI, 100, .inl (a.2 5))), (q 2, .inr (2, [.ref (q 20), .ref (q 21), .int (nI (a.1 8)), .int (nI (a.1 14) - 1), .int (nI (a.1 13))])), (q 20, .inl (cZ, 300, .inl (a.2 2))), (q 21, .inl (cI, 300, .inl (a.2 4)))] := hD.sub [0, 1, 2, 3, 4] (by decide) rfl
            by_cases e_28 : cldA (a.2 2) (bef k)
            · rw [if_pos e_28] at hw_28
              obtain rfl : r_28 = nI 1 := hw_28
              refine k_if_eq (tgt := 48) hx hb (by decide) dX0_countShowable_31 (by decide) (fun q => absurd q (by decide)) (fun _ => ?_)
              refine lv_aload_n hx hb dX0_countShowable_34 rfl (lv_at hl 0 rfl) ?_
              refine lv_iload_n hx hb dX0_countShowable_35 rfl (lv_at hl 2 rfl) ?_
              refine k_callSi (n := 1) (As := [.int (nI k)]) (rest := [.ref (q 3)]) hfix hN hK hP hD hS hA hl.1 (c_X0_needBehind l D cI cZ k (by omega)) (fun _ => rfl) gX0_countShowable_X0_needBehind rfl (by decide +kernel) rfl ⟨Nat.le_of_ble_eq_true rfl, Nat.le_of_ble_eq_true rfl⟩ [0, 1, 2, 3, 4] rfl (by decide) rfl (Nat.le_of_ble_eq_true rfl) ⟨Nat.zero_le _, Nat.zero_le _⟩ dX0_countShowable_36 (fun r_36 u H locs hw_36 hP hD hS => ?_)
              by_cases e_36 : k % 3 = 0
              · rw [if_pos e_36] at hw_36
                obtain rfl : r_36 = (-1) := hw_36
                refine k_callVi (n := 1) (wr := []) (As := [.int (-1)]) (rest := []) hfix hN hK hP hD hS hA hl.1 (c_X0_isAnchorShowable0 l D cI cZ q a b9 t9 ) gX0_countShowable_X0_isAnchorShowable rfl (by decide +kernel) rfl ⟨Nat.le_of_ble_eq_true rfl, Nat.le_of_ble_eq_true rfl⟩ [0, 1, 2, 3, 4] [] rfl rfl (by decide) (by decide) (by decide) 0 rfl rfl rfl (Nat.le_of_ble_eq_true rfl) ⟨Nat.zero_le _, Nat.zero_le _⟩ dX0_countShowable_39 (fun r_39 u H locs hw_39 hP hD hS => ?_)
                have hP : va_P D vwCl [(q 3, .inr (0, [.ref (q 2), .ref (q 31), .int (nI (a.1 11)), .int b9, .int t9, .int (nI (a.1 15))])), (q 31, .inl (cI, 100, .inl (a.2 5))), (q 2, .inr (2, [.ref (q 20), .ref (q 21), .int (nI (a.1 8)), .int (nI (a.1 14) - 1), .int (nI (a.1 13))])), (q 20, .inl (cZ, 300, .inl (a.2 2))), (q 21, .inl (cI, 300, .inl (a.2 4)))] H := hP.sub [0, 1, 2, 3, 4] rfl
                have hD : va_D A [(q 3, .inr (0, [.ref (q 2), .ref (q 31), .int (nI (a.1 11)), .int b9, .int t9, .int (nI (a.1 15))])), (q 31, .inl (cI, 100, .inl (a.2 5))), (q 2, .inr (2, [.ref (q 20), .ref (q 21), .int (nI (a.1 8)), .int (nI (a.1 14) - 1), .int (nI (a.1 13))])), (q 20, .inl (cZ, 300, .inl (a.2 2))), (q 21, .inl (cI, 300, .inl (a.2 4)))] := hD.sub [0, 1, 2, 3, 4] (by decide) rfl
                obtain rfl : r_39 = nI 1 := hw_39
                refine k_if_eq (tgt := 48) hx hb (by decide) dX0_countShowable_42 (by decide) (fun q => absurd q (by decide)) (fun _ => ?_)
                refine lv_iinc (v := nI (m9 + 1)) (lv' := [(1, .int (nI (m9 + 1))), (0, .ref (q 3)), (2, .int (nI k))]) hx hb dX0_countShowable_45 hl (k := 1) rfl (nI_add m9 1) (by decide) rfl (fun ls hl => ?_)
                refine lv_iinc (v := nI (k + 1)) (lv' := [(2, .int (nI (k + 1))), (1, .int (nI (m9 + 1))), (0, .ref (q 3))]) hx hb dX0_countShowable_48 hl (k := 2) rfl (nI_add k 1) (by decide) rfl (fun ls hl => ?_)
                refine lv_goto (tgt := 4) hx hb dX0_countShowable_51 (by decide) ?_
                exact ih9 (k + 1) (m9 + 1) (by omega) (by omega) (by rw [cldN, if_pos ⟨e_17, Or.inr e_28, Or.inl e_36⟩, hm]) H locs ls hP hD hS (lv_sub hl [2, 1, 0] rfl)
              · rw [if_neg e_36] at hw_36
                obtain rfl : r_36 = nI (beh k) := hw_36
                refine k_callVi (n := 1) (wr := []) (As := [.int (nI (beh k))]) (rest := []) hfix hN hK hP hD hS hA hl.1 (c_X0_isAnchorShowable l D cI cZ q a b9 t9 (beh k) (by first | omega | exact bef_lt (by omega) | exact beh_lt (by omega) (by omega))) gX0_countShowable_X0_isAnchorShowable rfl (by decide +kernel) rfl ⟨Nat.le_of_ble_eq_true rfl, Nat.le_of_ble_eq_true rfl⟩ [0, 1, 2, 3, 4] [] rfl rfl (by decide) (by decide) (by decide) 0 rfl rfl rfl (Nat.le_of_ble_eq_true rfl) ⟨Nat.zero_le _, Nat.zero_le _⟩ dX0_countShowable_39 (fun r_39 u H locs hw_39 hP hD hS => ?_)
                have hP : va_P D vwCl [(q 3, .inr (0, [.ref (q 2), .ref (q 31), .int (nI (a.1 11)), .int b9, .int t9, .int (nI (a.1 15))])), (q 31, .inl (cI, 100, .inl (a.2 5))), (q 2, .inr (2, [.ref (q 20), .ref (q 21), .int (nI (a.1 8)), .int (nI (a.1 14) - 1), .int (nI (a.1 13))])), (q 20, .inl (cZ, 300, .inl (a.2 2))), (q 21, .inl (cI, 300, .inl (a.2 4)))] H := hP.sub [0, 1, 2, 3, 4] rfl
                have hD : va_D A [(q 3, .inr (0, [.ref (q 2), .ref (q 31), .int (nI (a.1 11)), .int b9, .int t9, .int (nI (a.1 15))])), (q 31, .inl (cI, 100, .inl (a.2 5))), (q 2, .inr (2, [.ref (q 20), .ref (q 21), .int (nI (a.1 8)), .int (nI (a.1 14) - 1), .int (nI (a.1 13))])), (q 20, .inl (cZ, 300, .inl (a.2 2))), (q 21, .inl (cI, 300, .inl (a.2 4)))] := hD.sub [0, 1, 2, 3, 4] (by decide) rfl
                by_cases e_39 : cldA (a.2 2) (beh k)
                · rw [if_pos e_39] at hw_39
                  obtain rfl : r_39 = nI 1 := hw_39
                  refine k_if_eq (tgt := 48) hx hb (by decide) dX0_countShowable_42 (by decide) (fun q => absurd q (by decide)) (fun _ => ?_)
                  refine lv_iinc (v := nI (m9 + 1)) (lv' := [(1, .int (nI (m9 + 1))), (0, .ref (q 3)), (2, .int (nI k))]) hx hb dX0_countShowable_45 hl (k := 1) rfl (nI_add m9 1) (by decide) rfl (fun ls hl => ?_)
                  refine lv_iinc (v := nI (k + 1)) (lv' := [(2, .int (nI (k + 1))), (1, .int (nI (m9 + 1))), (0, .ref (q 3))]) hx hb dX0_countShowable_48 hl (k := 2) rfl (nI_add k 1) (by decide) rfl (fun ls hl => ?_)
                  refine lv_goto (tgt := 4) hx hb dX0_countShowable_51 (by decide) ?_
                  exact ih9 (k + 1) (m9 + 1) (by omega) (by omega) (by rw [cldN, if_pos ⟨e_17, Or.inr e_28, Or.inr e_39⟩, hm]) H locs ls hP hD hS (lv_sub hl [2, 1, 0] rfl)
                · rw [if_neg e_39] at hw_39
                  obtain rfl : r_39 = nI 0 := hw_39
                  refine k_if_eq (tgt := 48) hx hb (by decide) dX0_countShowable_42 (by decide) (fun _ => ?_) (fun q => absurd q (by decide))
                  refine lv_iinc (v := nI (k + 1)) (lv' := [(2, .int (nI (k + 1))), (0, .ref (q 3)), (1, .int (nI m9))]) hx hb dX0_countShowable_48 hl (k := 2) rfl (nI_add k 1) (by decide) rfl (fun ls hl => ?_)
                  refine lv_goto (tgt := 4) hx hb dX0_countShowable_51 (by decide) ?_
                  exact ih9 (k + 1) m9 (by omega) (by omega) (by rw [cldN, if_neg (fun h => h.2.2.elim e_36 e_39), hm]) H locs ls hP hD hS (lv_sub hl [1, 2, 0] rfl)
            · rw [if_neg e_28] at hw_28
              obtain rfl : r_28 = nI 0 := hw_28
              refine k_if_eq (tgt := 48) hx hb (by decide) dX0_countShowable_31 (by decide) (fun _ => ?_) (fun q => absurd q (by decide))
              refine lv_iinc (v := nI (k + 1)) (lv' := [(2, .int (nI (k + 1))), (0, .ref (q 3)), (1, .int (nI m9))]) hx hb dX0_countShowable_48 hl (k := 2) rfl (nI_add k 1) (by decide) rfl (fun ls hl => ?_)
              refine lv_goto (tgt := 4) hx hb dX0_countShowable_51 (by decide) ?_
              exact ih9 (k + 1) m9 (by omega) (by omega) (by rw [cldN, if_neg (fun h => h.2.1.elim e_25 e_28), hm]) H locs ls hP hD hS (lv_sub hl [1, 2, 0] rfl)
        · rw [if_neg e_17] at hw_17
          obtain rfl : r_17 = nI 0 := hw_17
          refine k_if_eq (tgt := 48) hx hb (by decide) dX0_countShowable_20 (by decide) (fun _ => ?_) (fun q => absurd q (by decide))
          refine lv_iinc (v := nI (k + 1)) (lv' := [(2, .int (nI (k + 1))), (0, .ref (q 3)), (1, .int (nI m9))]) hx hb dX0_countShowable_48 hl (k := 2) rfl (nI_add k 1) (by decide) rfl (fun ls hl => ?_)
          refine lv_goto (tgt := 4) hx hb dX0_countShowable_51 (by decide) ?_
          exact ih9 (k + 1) m9 (by omega) (by omega) (by rw [cldN, if_neg (fun h => e_17 h.1), hm]) H locs ls hP hD hS (lv_sub hl [1, 2, 0] rfl)
  refine lv_iconst (v := nI 0) hx hb dX0_countShowable_0 (by decide) ?_
  refine lv_istore_n (lv' := [(1, .int (nI 0)), (0, .ref (q 3))]) hx hb dX0_countShowable_1 rfl hl (by decide) rfl (fun ls hl => ?_)
  refine lv_iconst (v := nI 0) hx hb dX0_countShowable_2 (by decide) ?_
  refine lv_istore_n (lv' := [(2, .int (nI 0)), (1, .int (nI 0)), (0, .ref (q 3))]) hx hb dX0_countShowable_3 rfl hl (by decide) rfl (fun ls hl => ?_)
  exact at4 _ 0 0 (Nat.lt_succ_self _) (Nat.zero_le _) rfl H locs ls hP hD hS (lv_sub hl [2, 1, 0] rfl)
set_option maxHeartbeats 4000000 in
set_option maxRecDepth 100000 in
theorem c_X0_delay (l : Launch) (D : va_G) (cI cZ : ClassId) (q : Nat → Nat) (a : AS) (hI : AI a) : kMi l yX0_delay wsX0_delay 0 0 D (TY cI cZ) [.ref (q 3)] [(q 3, .inr (0, [.ref (q 2), .ref (q 31), .int (nI (a.1 11)), .int (bT a), .int (tT a), .int (nI (a.1 15))])), (q 31, .inl (cI, 100, .inl (a.2 5)))] (fun (r : Int32) (_ : Unit) => r = (if a.1 9 = 0 ∨ 100 ≤ a.1 11 then nI 0 else nI (a.1 12) - nI (a.1 10) - nI (10 * a.1 11))) (fun (_ : Unit) => FWa cI q a) := by
  obtain ⟨⟨i0, i4, i5, i7, i9, i10, i11, i12⟩, ⟨i1, i2, i3⟩, ⟨i8, i13, i14⟩, iQ, iH0, iH1, iW0, iW1, iN⟩ := id hI
  intro sz
  refine k_in (Qc := fun A => va_Qi (fun (r : Int32) (_ : Unit) => r = (if a.1 9 = 0 ∨ 100 ≤ a.1 11 then nI 0 else nI (a.1 12) - nI (a.1 10) - nI (10 * a.1 11))) (kB D A (fun (_ : Unit) => FWa cI q a)) A) (cc := cX0_delay) (maxL := 1) (ret := (some .int)) (by decide) rfl (Nat.le_of_ble_eq_true rfl) ?_
  intro p e s m below meth c A ls hfix hr hlk hN hP hK hD hA hS hl
  have hfix : CallFix p m c cX0_delay 1 s [.ref (q 3)].toArray wsX0_delay RX0 := hfix
  have hl : lv_has ls 1 [(0, .ref (q 3))] := hl
  obtain ⟨hx, hb, hml, hown, hts⟩ := id hfix
  have hinX0 : ∀ w ∈ wsX00, w ∈ wsX0_delay := fun _ h => List.mem_cons_of_mem _ (List.mem_append_right _ h)
  have hP : va_P D vwCl [(q 3, .inr (0, [.ref (q 2), .ref (q 31), .int (nI (a.1 11)), .int (bT a), .int (tT a), .int (nI (a.1 15))])), (q 31, .inl (cI, 100, .inl (a.2 5)))] s.heap := hP
  have hD : va_D A [(q 3, .inr (0, [.ref (q 2), .ref (q 31), .int (nI (a.1 11)), .int (bT a), .int (tT a), .int (nI (a.1 15))])), (q 31, .inl (cI, 100, .inl (a.2 5)))] := hD
  have hS : ∃ (H : Heap) (locs : List Loc), H = s.heap ∧ locs = [] ∧ va_S A s.heap H locs := ⟨_, _, rfl, rfl, hS⟩
  obtain ⟨H, locs, hH, hlocs, hS⟩ := hS
  rw [← hH] at hP
  suffices hW9 : W p l e ({ frames := 0, cells := 0, slots := 0, locals := 0 } : Room) s m [.ref (q 3)].toArray below meth c H locs 0 0 (MQ below (va_Qi (fun (r : Int32) (_ : Unit) => r = (if a.1 9 = 0 ∨ 100 ≤ a.1 11 then nI 0 else nI (a.1 12) - nI (a.1 10) - nI (10 * a.1 11))) (kB D A (fun (_ : Unit) => FWa cI q a)) A) [.ref (q 3)].toArray s 0 0 A) (F0 m 0 ls []) by rw [hH, hlocs] at hW9; exact hW9
  clear hH hlocs
  refine lv_aload_n hx hb dX0_delay_0 rfl (lv_at hl 0 rfl) ?_
  refine va_get (D := D) (ci := 0) (v := .int (tT a)) (C := RX0) (T := TX0) (N := 6) hx hb hts hinX0 hown hK hP 0 rfl rfl 4 (by decide) (hts _ (List.mem_of_getElem? (i := 1) rfl)) (fun _ h9 => h9) rfl dX0_delay_1 ?_
  refine lv_iconst (v := (-1)) hx hb dX0_delay_4 (by decide) ?_
  refine lv_icmp_ne (tgt := 12) hx hb dX0_delay_5 (by decide) (fun c_5 => ?_) (fun c_5 => ?_)
  · -- c_5 taken
    refine lv_aload_n hx hb dX0_delay_12 rfl (lv_at hl 0 rfl) ?_
    refine va_get (D := D) (ci := 0) (v := .int (tT a)) (C := RX0) (T := TX0) (N := 6) hx hb hts hinX0 hown hK hP 0 rfl rfl 4 (by decide) (hts _ (List.mem_of_getElem? (i := 1) rfl)) (fun _ h9 => h9) rfl dX0_delay_13 ?_
    refine lv_aload_n hx hb dX0_delay_16 rfl (lv_at hl 0 rfl) ?_
    refine va_get (D := D) (ci := 0) (v := .int (bT a)) (C := RX0) (T := TX0) (N := 6) hx hb hts hinX0 hown hK hP 0 rfl rfl 3 (by decide) (hts _ (List.mem_of_getElem? (i := 2) rfl)) (fun _ h9 => h9) rfl dX0_delay_17 ?_
    refine lv_isub hx hb dX0_delay_20 ?_
    refine lv_bipush (v := nI 10) hx hb dX0_delay_21 (by decide) ?_
    refine lv_aload_n hx hb dX0_delay_23 rfl (lv_at hl 0 rfl) ?_
    refine va_get (D := D) (ci := 0) (v := .int (nI (a.1 11))) (C := RX0) (T := TX0) (N := 6) hx hb hts hinX0 hown hK hP 0 rfl rfl 2 (by decide) (hts _ (List.mem_of_getElem? (i := 3) rfl)) (fun _ h9 => h9) rfl dX0_delay_24 ?_
    refine k_imul hx hb dX0_delay_27 ?_
    refine lv_isub hx hb dX0_delay_28 ?_
    exact k_iret (v := (((tT a) - (bT a)) - nI (10 * (a.1 11)))) hx hb hr hlk rfl () (by have h := fun z => c_5 ((tT_m1 (by omega)).mpr z); rw [if_neg h, tT_n h, bT_n (fun z => h (Or.inl z))]) hP hD hS dX0_delay_29
  · -- c_5 not taken
    refine lv_iconst (v := nI 0) hx hb dX0_delay_8 (by decide) ?_
    refine lv_goto (tgt := 29) hx hb dX0_delay_9 (by decide) ?_
    exact k_iret (v := nI 0) hx hb hr hlk rfl () ((if_pos ((tT_m1 (by omega)).mp c_5)).symm) hP hD hS dX0_delay_29
end
section
/-! the player: what throws nothing -/
def a_tk (k : Nat) (a : AS) : AS := sN (sA a 2 (tkH (a.2 0) (a.2 2) k)) 14 (tkP (a.2 0) (a.1 14) k)
set_option maxHeartbeats 4000000 in
set_option maxRecDepth 100000 in
theorem c_X3_tick (l : Launch) (D : va_G) (cI cZ : ClassId) (q : Nat → Nat) (a : AS) : kMi l yX3_tick wsX3_tick 0 0 D (TY cI cZ) [.ref (q 0)] [(q 0, .inr (3, [.ref (q 1), .ref (q 2), .ref (q 3), .int (nI (a.1 7))])), (q 1, .inr (1, [.ref (q 10), .ref (q 11), .int (nI (a.1 4)), .int (nI (a.1 0)), .int (nI (a.1 1)), .int (nI (a.1 2)), .int (nI (a.1 3)), .int (nI (a.1 5)), .int (nI (a.1 6))])), (q 10, .inl (cI, 32, .inl (a.2 0))), (q 11, .inl (cI, 32, .inl (a.2 1))), (q 2, .inr (2, [.ref (q 20), .ref (q 21), .int (nI (a.1 8)), .int (nI (a.1 14) - 1), .int (nI (a.1 13))])), (q 20, .inl (cZ, 300, .inl (a.2 2))), (q 21, .inl (cI, 300, .inl (a.2 4))), (q 3, .inr (0, [.ref (q 2), .ref (q 31), .int (nI (a.1 11)), .int (bT a), .int (tT a), .int (nI (a.1 15))])), (q 31, .inl (cI, 100, .inl (a.2 5)))] (fun (r : Int32) (_ : Unit) => r = nI (a.1 7)) (fun (_ : Unit) => XWa cI cZ q a) := by
  intro sz
  refine k_in (Qc := fun A => va_Qi (fun (r : Int32) (_ : Unit) => r = nI (a.1 7)) (kB D A (fun (_ : Unit) => XWa cI cZ q a)) A) (cc := cX3_tick) (maxL := 1) (ret := (some .int)) (by decide) rfl (Nat.le_of_ble_eq_true rfl) ?_
  intro p e s m below meth c A ls hfix hr hlk hN hP hK hD hA hS hl
  have hfix : CallFix p m c cX3_tick 1 s [.ref (q 0)].toArray wsX3_tick RX3 := hfix
  have hl : lv_has ls 1 [(0, .ref (q 0))] := hl
  obtain ⟨hx, hb, hml, hown, hts⟩ := id hfix
  have hinX3 : ∀ w ∈ wsX30, w ∈ wsX3_tick := fun _ h => List.mem_cons_of_mem _ (List.mem_append_right _ h)
  have hP : va_P D vwCl [(q 0, .inr (3, [.ref (q 1), .ref (q 2), .ref (q 3), .int (nI (a.1 7))])), (q 1, .inr (1, [.ref (q 10), .ref (q 11), .int (nI (a.1 4)), .int (nI (a.1 0)), .int (nI (a.1 1)), .int (nI (a.1 2)), .int (nI (a.1 3)), .int (nI (a.1 5)), .int (nI (a.1 6))])), (q 10, .inl (cI, 32, .inl (a.2 0))), (q 11, .inl (cI, 32, .inl (a.2 1))), (q 2, .inr (2, [.ref (q 20), .ref (q 21), .int (nI (a.1 8)), .int (nI (a.1 14) - 1), .int (nI (a.1 13))])), (q 20, .inl (cZ, 300, .inl (a.2 2))), (q 21, .inl (cI, 300, .inl (a.2 4))), (q 3, .inr (0, [.ref (q 2), .ref (q 31), .int (nI (a.1 11)), .int (bT a), .int (tT a), .int (nI (a.1 15))])), (q 31, .inl (cI, 100, .inl (a.2 5)))] s.heap := hP
  have hD : va_D A [(q 0, .inr (3, [.ref (q 1), .ref (q 2), .ref (q 3), .int (nI (a.1 7))])), (q 1, .inr (1, [.ref (q 10), .ref (q 11), .int (nI (a.1 4)), .int (nI (a.1 0)), .int (nI (a.1 1)), .int (nI (a.1 2)), .int (nI (a.1 3)), .int (nI (a.1 5)), .int (nI (a.1 6))])), (q 10, .inl (cI, 32, .inl (a.2 0))), (q 11, .inl (cI, 32, .inl (a.2 1))), (q 2, .inr (2, [.ref (q 20), .ref (q 21), .int (nI (a.1 8)), .int (nI (a.1 14) - 1), .int (nI (a.1 13))])), (q 20, .inl (cZ, 300, .inl (a.2 2))), (q 21, .inl (cI, 300, .inl (a.2 4))), (q 3, .inr (0, [.ref (q 2), .ref (q 31), .int (nI (a.1 11)), .int (bT a), .int (tT a), .int (nI (a.1 15))])), (q 31, .inl (cI, 100, .inl (a.2 5)))] := hD
  have hS : ∃ (H : Heap) (locs : List Loc), H = s.heap ∧ locs = [] ∧ va_S A s.heap H locs := ⟨_, _, rfl, rfl, hS⟩
  obtain ⟨H, locs, hH, hlocs, hS⟩ := hS
  rw [← hH] at hP
  suffices hW9 : W p l e ({ frames := 0, cells := 0, slots := 0, locals := 0 } : Room) s m [.ref (q 0)].toArray below meth c H locs 0 0 (MQ below (va_Qi (fun (r : Int32) (_ : Unit) => r = nI (a.1 7)) (kB D A (fun (_ : Unit) => XWa cI cZ q a)) A) [.ref (q 0)].toArray s 0 0 A) (F0 m 0 ls []) by rw [hH, hlocs] at hW9; exact hW9
  clear hH hlocs
  refine lv_aload_n hx hb dX3_tick_0 rfl (lv_at hl 0 rfl) ?_
  refine va_get (D := D) (ci := 3) (v := .int (nI (a.1 7))) (C := RX3) (T := TX3) (N := 4) hx hb hts hinX3 hown hK hP 0 rfl rfl 3 (by decide) (hts _ (List.mem_of_getElem? (i := 1) rfl)) (fun _ h9 => h9) rfl dX3_tick_1 ?_
  exact k_iret (v := nI (a.1 7)) hx hb hr hlk rfl () rfl hP hD hS dX3_tick_4
set_option maxHeartbeats 4000000 in
set_option maxRecDepth 100000 in
theorem c_X3_waiting (l : Launch) (D : va_G) (cI cZ : ClassId) (q : Nat → Nat) (a : AS) : kMi l yX3_waiting wsX3_waiting 0 0 D (TY cI cZ) [.ref (q 0)] [(q 0, .inr (3, [.ref (q 1), .ref (q 2), .ref (q 3), .int (nI (a.1 7))])), (q 1, .inr (1, [.ref (q 10), .ref (q 11), .int (nI (a.1 4)), .int (nI (a.1 0)), .int (nI (a.1 1)), .int (nI (a.1 2)), .int (nI (a.1 3)), .int (nI (a.1 5)), .int (nI (a.1 6))])), (q 10, .inl (cI, 32, .inl (a.2 0))), (q 11, .inl (cI, 32, .inl (a.2 1))), (q 2, .inr (2, [.ref (q 20), .ref (q 21), .int (nI (a.1 8)), .int (nI (a.1 14) - 1), .int (nI (a.1 13))])), (q 20, .inl (cZ, 300, .inl (a.2 2))), (q 21, .inl (cI, 300, .inl (a.2 4))), (q 3, .inr (0, [.ref (q 2), .ref (q 31), .int (nI (a.1 11)), .int (bT a), .int (tT a), .int (nI (a.1 15))])), (q 31, .inl (cI, 100, .inl (a.2 5)))] (fun (r : Int32) (_ : Unit) => r = nI (a.1 4)) (fun (_ : Unit) => XWa cI cZ q a) := by
  intro sz
  refine k_in (Qc := fun A => va_Qi (fun (r : Int32) (_ : Unit) => r = nI (a.1 4)) (kB D A (fun (_ : Unit) => XWa cI cZ q a)) A) (cc := cX3_waiting) (maxL := 1) (ret := (some .int)) (by decide) rfl (Nat.le_of_ble_eq_true rfl) ?_
  intro p e s m below meth c A ls hfix hr hlk hN hP hK hD hA hS hl
  have hfix : CallFix p m c cX3_waiting 1 s [.ref (q 0)].toArray wsX3_waiting RX3 := hfix
  have hl : lv_has ls 1 [(0, .ref (q 0))] := hl
  obtain ⟨hx, hb, hml, hown, hts⟩ := id hfix
  have hinX1 : ∀ w ∈ wsX10, w ∈ wsX3_waiting := fun _ h => List.mem_cons_of_mem _ (List.mem_append_right _ h)
  have hinX3 : ∀ w ∈ wsX30, w ∈ wsX3_waiting := fun _ h => List.mem_cons_of_mem _ (List.mem_append_left _ (List.mem_append_right _ h))
  have hP : va_P D vwCl [(q 0, .inr (3, [.ref (q 1), .ref (q 2), .ref (q 3), .int (nI (a.1 7))])), (q 1, .inr (1, [.ref (q 10), .ref (q 11), .int (nI (a.1 4)), .int (nI (a.1 0)), .int (nI (a.1 1)), .int (nI (a.1 2)), .int (nI (a.1 3)), .int (nI (a.1 5)), .int (nI (a.1 6))])), (q 10, .inl (cI, 32, .inl (a.2 0))), (q 11, .inl (cI, 32, .inl (a.2 1))), (q 2, .inr (2, [.ref (q 20), .ref (q 21), .int (nI (a.1 8)), .int (nI (a.1 14) - 1), .int (nI (a.1 13))])), (q 20, .inl (cZ, 300, .inl (a.2 2))), (q 21, .inl (cI, 300, .inl (a.2 4))), (q 3, .inr (0, [.ref (q 2), .ref (q 31), .int (nI (a.1 11)), .int (bT a), .int (tT a), .int (nI (a.1 15))])), (q 31, .inl (cI, 100, .inl (a.2 5)))] s.heap := hP
  have hD : va_D A [(q 0, .inr (3, [.ref (q 1), .ref (q 2), .ref (q 3), .int (nI (a.1 7))])), (q 1, .inr (1, [.ref (q 10), .ref (q 11), .int (nI (a.1 4)), .int (nI (a.1 0)), .int (nI (a.1 1)), .int (nI (a.1 2)), .int (nI (a.1 3)), .int (nI (a.1 5)), .int (nI (a.1 6))])), (q 10, .inl (cI, 32, .inl (a.2 0))), (q 11, .inl (cI, 32, .inl (a.2 1))), (q 2, .inr (2, [.ref (q 20), .ref (q 21), .int (nI (a.1 8)), .int (nI (a.1 14) - 1), .int (nI (a.1 13))])), (q 20, .inl (cZ, 300, .inl (a.2 2))), (q 21, .inl (cI, 300, .inl (a.2 4))), (q 3, .inr (0, [.ref (q 2), .ref (q 31), .int (nI (a.1 11)), .int (bT a), .int (tT a), .int (nI (a.1 15))])), (q 31, .inl (cI, 100, .inl (a.2 5)))] := hD
  have hS : ∃ (H : Heap) (locs : List Loc), H = s.heap ∧ locs = [] ∧ va_S A s.heap H locs := ⟨_, _, rfl, rfl, hS⟩
  obtain ⟨H, locs, hH, hlocs, hS⟩ := hS
  rw [← hH] at hP
  suffices hW9 : W p l e ({ frames := 0, cells := 0, slots := 0, locals := 0 } : Room) s m [.ref (q 0)].toArray below meth c H locs 0 0 (MQ below (va_Qi (fun (r : Int32) (_ : Unit) => r = nI (a.1 4)) (kB D A (fun (_ : Unit) => XWa cI cZ q a)) A) [.ref (q 0)].toArray s 0 0 A) (F0 m 0 ls []) by rw [hH, hlocs] at hW9; exact hW9
  clear hH hlocs
  refine lv_aload_n hx hb dX3_waiting_0 rfl (lv_at hl 0 rfl) ?_
  refine va_get (D := D) (ci := 3) (v := .ref (q 1)) (C := RX3) (T := TX3) (N := 4) hx hb hts hinX3 hown hK hP 0 rfl rfl 0 (by decide) (hts _ (List.mem_of_getElem? (i := 1) rfl)) (fun _ h9 => h9) rfl dX3_waiting_1 ?_
  refine va_getN (D := D) (ci := 1) (v := .int (nI (a.1 4))) (C := RX1) (T := TX1) (N := 9) hx hb hts hinX1 hown hK hP 1 rfl rfl 2 (by decide) (va_Nw.use rfl hN.f71) (fun _ h9 => h9) rfl dX3_waiting_4 ?_
  exact k_iret (v := nI (a.1 4)) hx hb hr hlk rfl () rfl hP hD hS dX3_waiting_7
set_option maxHeartbeats 4000000 in
set_option maxRecDepth 100000 in
theorem c_X3_lost (l : Launch) (D : va_G) (cI cZ : ClassId) (q : Nat → Nat) (a : AS) : kMi l yX3_lost wsX3_lost 0 0 D (TY cI cZ) [.ref (q 0)] [(q 0, .inr (3, [.ref (q 1), .ref (q 2), .ref (q 3), .int (nI (a.1 7))])), (q 1, .inr (1, [.ref (q 10), .ref (q 11), .int (nI (a.1 4)), .int (nI (a.1 0)), .int (nI (a.1 1)), .int (nI (a.1 2)), .int (nI (a.1 3)), .int (nI (a.1 5)), .int (nI (a.1 6))])), (q 10, .inl (cI, 32, .inl (a.2 0))), (q 11, .inl (cI, 32, .inl (a.2 1))), (q 2, .inr (2, [.ref (q 20), .ref (q 21), .int (nI (a.1 8)), .int (nI (a.1 14) - 1), .int (nI (a.1 13))])), (q 20, .inl (cZ, 300, .inl (a.2 2))), (q 21, .inl (cI, 300, .inl (a.2 4))), (q 3, .inr (0, [.ref (q 2), .ref (q 31), .int (nI (a.1 11)), .int (bT a), .int (tT a), .int (nI (a.1 15))])), (q 31, .inl (cI, 100, .inl (a.2 5)))] (fun (r : Int32) (_ : Unit) => r = nI (a.1 6)) (fun (_ : Unit) => XWa cI cZ q a) := by
  intro sz
  refine k_in (Qc := fun A => va_Qi (fun (r : Int32) (_ : Unit) => r = nI (a.1 6)) (kB D A (fun (_ : Unit) => XWa cI cZ q a)) A) (cc := cX3_lost) (maxL := 1) (ret := (some .int)) (by decide) rfl (Nat.le_of_ble_eq_true rfl) ?_
  intro p e s m below meth c A ls hfix hr hlk hN hP hK hD hA hS hl
  have hfix : CallFix p m c cX3_lost 1 s [.ref (q 0)].toArray wsX3_lost RX3 := hfix
  have hl : lv_has ls 1 [(0, .ref (q 0))] := hl
  obtain ⟨hx, hb, hml, hown, hts⟩ := id hfix
  have hinX1 : ∀ w ∈ wsX10, w ∈ wsX3_lost := fun _ h => List.mem_cons_of_mem _ (List.mem_append_right _ h)
  have hinX3 : ∀ w ∈ wsX30, w ∈ wsX3_lost := fun _ h => List.mem_cons_of_mem _ (List.mem_append_left _ (List.mem_append_right _ h))
  have hP : va_P D vwCl [(q 0, .inr (3, [.ref (q 1), .ref (q 2), .ref (q 3), .int (nI (a.1 7))])), (q 1, .inr (1, [.ref (q 10), .ref (q 11), .int (nI (a.1 4)), .int (nI (a.1 0)), .int (nI (a.1 1)), .int (nI (a.1 2)), .int (nI (a.1 3)), .int (nI (a.1 5)), .int (nI (a.1 6))])), (q 10, .inl (cI, 32, .inl (a.2 0))), (q 11, .inl (cI, 32, .inl (a.2 1))), (q 2, .inr (2, [.ref (q 20), .ref (q 21), .int (nI (a.1 8)), .int (nI (a.1 14) - 1), .int (nI (a.1 13))])), (q 20, .inl (cZ, 300, .inl (a.2 2))), (q 21, .inl (cI, 300, .inl (a.2 4))), (q 3, .inr (0, [.ref (q 2), .ref (q 31), .int (nI (a.1 11)), .int (bT a), .int (tT a), .int (nI (a.1 15))])), (q 31, .inl (cI, 100, .inl (a.2 5)))] s.heap := hP
  have hD : va_D A [(q 0, .inr (3, [.ref (q 1), .ref (q 2), .ref (q 3), .int (nI (a.1 7))])), (q 1, .inr (1, [.ref (q 10), .ref (q 11), .int (nI (a.1 4)), .int (nI (a.1 0)), .int (nI (a.1 1)), .int (nI (a.1 2)), .int (nI (a.1 3)), .int (nI (a.1 5)), .int (nI (a.1 6))])), (q 10, .inl (cI, 32, .inl (a.2 0))), (q 11, .inl (cI, 32, .inl (a.2 1))), (q 2, .inr (2, [.ref (q 20), .ref (q 21), .int (nI (a.1 8)), .int (nI (a.1 14) - 1), .int (nI (a.1 13))])), (q 20, .inl (cZ, 300, .inl (a.2 2))), (q 21, .inl (cI, 300, .inl (a.2 4))), (q 3, .inr (0, [.ref (q 2), .ref (q 31), .int (nI (a.1 11)), .int (bT a), .int (tT a), .int (nI (a.1 15))])), (q 31, .inl (cI, 100, .inl (a.2 5)))] := hD
  have hS : ∃ (H : Heap) (locs : List Loc), H = s.heap ∧ locs = [] ∧ va_S A s.heap H locs := ⟨_, _, rfl, rfl, hS⟩
  obtain ⟨H, locs, hH, hlocs, hS⟩ := hS
  rw [← hH] at hP
  suffices hW9 : W p l e ({ frames := 0, cells := 0, slots := 0, locals := 0 } : Room) s m [.ref (q 0)].toArray below meth c H locs 0 0 (MQ below (va_Qi (fun (r : Int32) (_ : Unit) => r = nI (a.1 6)) (kB D A (fun (_ : Unit) => XWa cI cZ q a)) A) [.ref (q 0)].toArray s 0 0 A) (F0 m 0 ls []) by rw [hH, hlocs] at hW9; exact hW9
  clear hH hlocs
  refine lv_aload_n hx hb dX3_lost_0 rfl (lv_at hl 0 rfl) ?_
  refine va_get (D := D) (ci := 3) (v := .ref (q 1)) (C := RX3) (T := TX3) (N := 4) hx hb hts hinX3 hown hK hP 0 rfl rfl 0 (by decide) (hts _ (List.mem_of_getElem? (i := 1) rfl)) (fun _ h9 => h9) rfl dX3_lost_1 ?_
  refine va_getN (D := D) (ci := 1) (v := .int (nI (a.1 6))) (C := RX1) (T := TX1) (N := 9) hx hb hts hinX1 hown hK hP 1 rfl rfl 8 (by decide) (va_Nw.use rfl hN.f92) (fun _ h9 => h9) rfl dX3_lost_4 ?_
  exact k_iret (v := nI (a.1 6)) hx hb hr hlk rfl () rfl hP hD hS dX3_lost_7
set_option maxHeartbeats 4000000 in
set_option maxRecDepth 100000 in
theorem c_X3_isPolled (l : Launch) (D : va_G) (cI cZ : ClassId) (q : Nat → Nat) (a : AS) (hI : AI a) : kMi l yX3_isPolled wsX3_isPolled 0 0 D (TY cI cZ) [.ref (q 0)] [(q 0, .inr (3, [.ref (q 1), .ref (q 2), .ref (q 3), .int (nI (a.1 7))])), (q 1, .inr (1, [.ref (q 10), .ref (q 11), .int (nI (a.1 4)), .int (nI (a.1 0)), .int (nI (a.1 1)), .int (nI (a.1 2)), .int (nI (a.1 3)), .int (nI (a.1 5)), .int (nI (a.1 6))])), (q 10, .inl (cI, 32, .inl (a.2 0))), (q 11, .inl (cI, 32, .inl (a.2 1))), (q 2, .inr (2, [.ref (q 20), .ref (q 21), .int (nI (a.1 8)), .int (nI (a.1 14) - 1), .int (nI (a.1 13))])), (q 20, .inl (cZ, 300, .inl (a.2 2))), (q 21, .inl (cI, 300, .inl (a.2 4))), (q 3, .inr (0, [.ref (q 2), .ref (q 31), .int (nI (a.1 11)), .int (bT a), .int (tT a), .int (nI (a.1 15))])), (q 31, .inl (cI, 100, .inl (a.2 5)))] (fun (r : Int32) (_ : Unit) => r = nI (a.1 5)) (fun (_ : Unit) => XWa cI cZ q a) := by
  obtain ⟨⟨i0, i4, i5, i7, i9, i10, i11, i12⟩, ⟨i1, i2, i3⟩, ⟨i8, i13, i14⟩, iQ, iH0, iH1, iW0, iW1, iN⟩ := id hI
  intro sz
  refine k_in (Qc := fun A => va_Qi (fun (r : Int32) (_ : Unit) => r = nI (a.1 5)) (kB D A (fun (_ : Unit) => XWa cI cZ q a)) A) (cc := cX3_isPolled) (maxL := 1) (ret := (some .boolean)) (by decide) rfl (Nat.le_of_ble_eq_true rfl) ?_
  intro p e s m below meth c A ls hfix hr hlk hN hP hK hD hA hS hl
  have hfix : CallFix p m c cX3_isPolled 1 s [.ref (q 0)].toArray wsX3_isPolled RX3 := hfix
  have hl : lv_has ls 1 [(0, .ref (q 0))] := hl
  obtain ⟨hx, hb, hml, hown, hts⟩ := id hfix
  have hinX1 : ∀ w ∈ wsX10, w ∈ wsX3_isPolled := fun _ h => List.mem_cons_of_mem _ (List.mem_append_right _ h)
  have hinX3 : ∀ w ∈ wsX30, w ∈ wsX3_isPolled := fun _ h => List.mem_cons_of_mem _ (List.mem_append_left _ (List.mem_append_right _ h))
  have hP : va_P D vwCl [(q 0, .inr (3, [.ref (q 1), .ref (q 2), .ref (q 3), .int (nI (a.1 7))])), (q 1, .inr (1, [.ref (q 10), .ref (q 11), .int (nI (a.1 4)), .int (nI (a.1 0)), .int (nI (a.1 1)), .int (nI (a.1 2)), .int (nI (a.1 3)), .int (nI (a.1 5)), .int (nI (a.1 6))])), (q 10, .inl (cI, 32, .inl (a.2 0))), (q 11, .inl (cI, 32, .inl (a.2 1))), (q 2, .inr (2, [.ref (q 20), .ref (q 21), .int (nI (a.1 8)), .int (nI (a.1 14) - 1), .int (nI (a.1 13))])), (q 20, .inl (cZ, 300, .inl (a.2 2))), (q 21, .inl (cI, 300, .inl (a.2 4))), (q 3, .inr (0, [.ref (q 2), .ref (q 31), .int (nI (a.1 11)), .int (bT a), .int (tT a), .int (nI (a.1 15))])), (q 31, .inl (cI, 100, .inl (a.2 5)))] s.heap := hP
  have hD : va_D A [(q 0, .inr (3, [.ref (q 1), .ref (q 2), .ref (q 3), .int (nI (a.1 7))])), (q 1, .inr (1, [.ref (q 10), .ref (q 11), .int (nI (a.1 4)), .int (nI (a.1 0)), .int (nI (a.1 1)), .int (nI (a.1 2)), .int (nI (a.1 3)), .int (nI (a.1 5)), .int (nI (a.1 6))])), (q 10, .inl (cI, 32, .inl (a.2 0))), (q 11, .inl (cI, 32, .inl (a.2 1))), (q 2, .inr (2, [.ref (q 20), .ref (q 21), .int (nI (a.1 8)), .int (nI (a.1 14) - 1), .int (nI (a.1 13))])), (q 20, .inl (cZ, 300, .inl (a.2 2))), (q 21, .inl (cI, 300, .inl (a.2 4))), (q 3, .inr (0, [.ref (q 2), .ref (q 31), .int (nI (a.1 11)), .int (bT a), .int (tT a), .int (nI (a.1 15))])), (q 31, .inl (cI, 100, .inl (a.2 5)))] := hD
  have hS : ∃ (H : Heap) (locs : List Loc), H = s.heap ∧ locs = [] ∧ va_S A s.heap H locs := ⟨_, _, rfl, rfl, hS⟩
  obtain ⟨H, locs, hH, hlocs, hS⟩ := hS
  rw [← hH] at hP
  suffices hW9 : W p l e ({ frames := 0, cells := 0, slots := 0, locals := 0 } : Room) s m [.ref (q 0)].toArray below meth c H locs 0 0 (MQ below (va_Qi (fun (r : Int32) (_ : Unit) => r = nI (a.1 5)) (kB D A (fun (_ : Unit) => XWa cI cZ q a)) A) [.ref (q 0)].toArray s 0 0 A) (F0 m 0 ls []) by rw [hH, hlocs] at hW9; exact hW9
  clear hH hlocs
  refine lv_aload_n hx hb dX3_isPolled_0 rfl (lv_at hl 0 rfl) ?_
  refine va_get (D := D) (ci := 3) (v := .ref (q 1)) (C := RX3) (T := TX3) (N := 4) hx hb hts hinX3 hown hK hP 0 rfl rfl 0 (by decide) (hts _ (List.mem_of_getElem? (i := 1) rfl)) (fun _ h9 => h9) rfl dX3_isPolled_1 ?_
  refine va_getN (D := D) (ci := 1) (v := .int (nI (a.1 5))) (C := RX1) (T := TX1) (N := 9) hx hb hts hinX1 hown hK hP 1 rfl rfl 7 (by decide) (va_Nw.use rfl hN.f95) (fun _ h9 => h9) rfl dX3_isPolled_4 ?_
  exact k_iret (v := nI (a.1 5)) hx hb hr hlk (by rcases (show a.1 5 = 0 ∨ a.1 5 = 1 by omega) with h | h <;> rw [h] <;> decide) () rfl hP hD hS dX3_isPolled_7
set_option maxHeartbeats 4000000 in
set_option maxRecDepth 100000 in
theorem c_X3_asked (l : Launch) (D : va_G) (cI cZ : ClassId) (q : Nat → Nat) (a : AS) : kMi l yX3_asked wsX3_asked 0 0 D (TY cI cZ) [.ref (q 0)] [(q 0, .inr (3, [.ref (q 1), .ref (q 2), .ref (q 3), .int (nI (a.1 7))])), (q 1, .inr (1, [.ref (q 10), .ref (q 11), .int (nI (a.1 4)), .int (nI (a.1 0)), .int (nI (a.1 1)), .int (nI (a.1 2)), .int (nI (a.1 3)), .int (nI (a.1 5)), .int (nI (a.1 6))])), (q 10, .inl (cI, 32, .inl (a.2 0))), (q 11, .inl (cI, 32, .inl (a.2 1))), (q 2, .inr (2, [.ref (q 20), .ref (q 21), .int (nI (a.1 8)), .int (nI (a.1 14) - 1), .int (nI (a.1 13))])), (q 20, .inl (cZ, 300, .inl (a.2 2))), (q 21, .inl (cI, 300, .inl (a.2 4))), (q 3, .inr (0, [.ref (q 2), .ref (q 31), .int (nI (a.1 11)), .int (bT a), .int (tT a), .int (nI (a.1 15))])), (q 31, .inl (cI, 100, .inl (a.2 5)))] (fun (r : Int32) (_ : Unit) => r = nI (a.1 8)) (fun (_ : Unit) => XWa cI cZ q a) := by
  intro sz
  refine k_in (Qc := fun A => va_Qi (fun (r : Int32) (_ : Unit) => r = nI (a.1 8)) (kB D A (fun (_ : Unit) => XWa cI cZ q a)) A) (cc := cX3_asked) (maxL := 1) (ret := (some .int)) (by decide) rfl (Nat.le_of_ble_eq_true rfl) ?_
  intro p e s m below meth c A ls hfix hr hlk hN hP hK hD hA hS hl
  have hfix : CallFix p m c cX3_asked 1 s [.ref (q 0)].toArray wsX3_asked RX3 := hfix
  have hl : lv_has ls 1 [(0, .ref (q 0))] := hl
  obtain ⟨hx, hb, hml, hown, hts⟩ := id hfix
  have hinX2 : ∀ w ∈ wsX20, w ∈ wsX3_asked := fun _ h => List.mem_cons_of_mem _ (List.mem_append_right _ h)
  have hinX3 : ∀ w ∈ wsX30, w ∈ wsX3_asked := fun _ h => List.mem_cons_of_mem _ (List.mem_append_left _ (List.mem_append_right _ h))
  have hP : va_P D vwCl [(q 0, .inr (3, [.ref (q 1), .ref (q 2), .ref (q 3), .int (nI (a.1 7))])), (q 1, .inr (1, [.ref (q 10), .ref (q 11), .int (nI (a.1 4)), .int (nI (a.1 0)), .int (nI (a.1 1)), .int (nI (a.1 2)), .int (nI (a.1 3)), .int (nI (a.1 5)), .int (nI (a.1 6))])), (q 10, .inl (cI, 32, .inl (a.2 0))), (q 11, .inl (cI, 32, .inl (a.2 1))), (q 2, .inr (2, [.ref (q 20), .ref (q 21), .int (nI (a.1 8)), .int (nI (a.1 14) - 1), .int (nI (a.1 13))])), (q 20, .inl (cZ, 300, .inl (a.2 2))), (q 21, .inl (cI, 300, .inl (a.2 4))), (q 3, .inr (0, [.ref (q 2), .ref (q 31), .int (nI (a.1 11)), .int (bT a), .int (tT a), .int (nI (a.1 15))])), (q 31, .inl (cI, 100, .inl (a.2 5)))] s.heap := hP
  have hD : va_D A [(q 0, .inr (3, [.ref (q 1), .ref (q 2), .ref (q 3), .int (nI (a.1 7))])), (q 1, .inr (1, [.ref (q 10), .ref (q 11), .int (nI (a.1 4)), .int (nI (a.1 0)), .int (nI (a.1 1)), .int (nI (a.1 2)), .int (nI (a.1 3)), .int (nI (a.1 5)), .int (nI (a.1 6))])), (q 10, .inl (cI, 32, .inl (a.2 0))), (q 11, .inl (cI, 32, .inl (a.2 1))), (q 2, .inr (2, [.ref (q 20), .ref (q 21), .int (nI (a.1 8)), .int (nI (a.1 14) - 1), .int (nI (a.1 13))])), (q 20, .inl (cZ, 300, .inl (a.2 2))), (q 21, .inl (cI, 300, .inl (a.2 4))), (q 3, .inr (0, [.ref (q 2), .ref (q 31), .int (nI (a.1 11)), .int (bT a), .int (tT a), .int (nI (a.1 15))])), (q 31, .inl (cI, 100, .inl (a.2 5)))] := hD
  have hS : ∃ (H : Heap) (locs : List Loc), H = s.heap ∧ locs = [] ∧ va_S A s.heap H locs := ⟨_, _, rfl, rfl, hS⟩
  obtain ⟨H, locs, hH, hlocs, hS⟩ := hS
  rw [← hH] at hP
  suffices hW9 : W p l e ({ frames := 0, cells := 0, slots := 0, locals := 0 } : Room) s m [.ref (q 0)].toArray below meth c H locs 0 0 (MQ below (va_Qi (fun (r : Int32) (_ : Unit) => r = nI (a.1 8)) (kB D A (fun (_ : Unit) => XWa cI cZ q a)) A) [.ref (q 0)].toArray s 0 0 A) (F0 m 0 ls []) by rw [hH, hlocs] at hW9; exact hW9
  clear hH hlocs
  refine lv_aload_n hx hb dX3_asked_0 rfl (lv_at hl 0 rfl) ?_
  refine va_get (D := D) (ci := 3) (v := .ref (q 2)) (C := RX3) (T := TX3) (N := 4) hx hb hts hinX3 hown hK hP 0 rfl rfl 1 (by decide) (hts _ (List.mem_of_getElem? (i := 1) rfl)) (fun _ h9 => h9) rfl dX3_asked_1 ?_
  refine va_getN (D := D) (ci := 2) (v := .int (nI (a.1 8))) (C := RX2) (T := TX2) (N := 5) hx hb hts hinX2 hown hK hP 4 rfl rfl 2 (by decide) (va_Nw.use rfl hN.f102) (fun _ h9 => h9) rfl dX3_asked_4 ?_
  exact k_iret (v := nI (a.1 8)) hx hb hr hlk rfl () rfl hP hD hS dX3_asked_7
set_option maxHeartbeats 4000000 in
set_option maxRecDepth 100000 in
theorem c_X3_next (l : Launch) (D : va_G) (cI cZ : ClassId) (q : Nat → Nat) (a : AS) (hI : AI a) : kMi l yX3_next wsX3_next 0 0 D (TY cI cZ) [.ref (q 0)] [(q 0, .inr (3, [.ref (q 1), .ref (q 2), .ref (q 3), .int (nI (a.1 7))])), (q 1, .inr (1, [.ref (q 10), .ref (q 11), .int (nI (a.1 4)), .int (nI (a.1 0)), .int (nI (a.1 1)), .int (nI (a.1 2)), .int (nI (a.1 3)), .int (nI (a.1 5)), .int (nI (a.1 6))])), (q 10, .inl (cI, 32, .inl (a.2 0))), (q 11, .inl (cI, 32, .inl (a.2 1))), (q 2, .inr (2, [.ref (q 20), .ref (q 21), .int (nI (a.1 8)), .int (nI (a.1 14) - 1), .int (nI (a.1 13))])), (q 20, .inl (cZ, 300, .inl (a.2 2))), (q 21, .inl (cI, 300, .inl (a.2 4))), (q 3, .inr (0, [.ref (q 2), .ref (q 31), .int (nI (a.1 11)), .int (bT a), .int (tT a), .int (nI (a.1 15))])), (q 31, .inl (cI, 100, .inl (a.2 5)))] (fun (r : Int32) (_ : Unit) => r = (if a.1 11 < 100 then nI (a.1 11) else (-1))) (fun (_ : Unit) => XWa cI cZ q a) := by
  obtain ⟨⟨i0, i4, i5, i7, i9, i10, i11, i12⟩, ⟨i1, i2, i3⟩, ⟨i8, i13, i14⟩, iQ, iH0, iH1, iW0, iW1, iN⟩ := id hI
  intro sz
  refine k_in (Qc := fun A => va_Qi (fun (r : Int32) (_ : Unit) => r = (if a.1 11 < 100 then nI (a.1 11) else (-1))) (kB D A (fun (_ : Unit) => XWa cI cZ q a)) A) (cc := cX3_next) (maxL := 1) (ret := (some .int)) (by decide) rfl (Nat.le_of_ble_eq_true rfl) ?_
  intro p e s m below meth c A ls hfix hr hlk hN hP hK hD hA hS hl
  have hfix : CallFix p m c cX3_next 1 s [.ref (q 0)].toArray wsX3_next RX3 := hfix
  have hl : lv_has ls 1 [(0, .ref (q 0))] := hl
  obtain ⟨hx, hb, hml, hown, hts⟩ := id hfix
  have hinX0 : ∀ w ∈ wsX00, w ∈ wsX3_next := fun _ h => List.mem_cons_of_mem _ (List.mem_append_right _ h)
  have hinX3 : ∀ w ∈ wsX30, w ∈ wsX3_next := fun _ h => List.mem_cons_of_mem _ (List.mem_append_left _ (List.mem_append_right _ h))
  have hP : va_P D vwCl [(q 0, .inr (3, [.ref (q 1), .ref (q 2), .ref (q 3), .int (nI (a.1 7))])), (q 1, .inr (1, [.ref (q 10), .ref (q 11), .int (nI (a.1 4)), .int (nI (a.1 0)), .int (nI (a.1 1)), .int (nI (a.1 2)), .int (nI (a.1 3)), .int (nI (a.1 5)), .int (nI (a.1 6))])), (q 10, .inl (cI, 32, .inl (a.2 0))), (q 11, .inl (cI, 32, .inl (a.2 1))), (q 2, .inr (2, [.ref (q 20), .ref (q 21), .int (nI (a.1 8)), .int (nI (a.1 14) - 1), .int (nI (a.1 13))])), (q 20, .inl (cZ, 300, .inl (a.2 2))), (q 21, .inl (cI, 300, .inl (a.2 4))), (q 3, .inr (0, [.ref (q 2), .ref (q 31), .int (nI (a.1 11)), .int (bT a), .int (tT a), .int (nI (a.1 15))])), (q 31, .inl (cI, 100, .inl (a.2 5)))] s.heap := hP
  have hD : va_D A [(q 0, .inr (3, [.ref (q 1), .ref (q 2), .ref (q 3), .int (nI (a.1 7))])), (q 1, .inr (1, [.ref (q 10), .ref (q 11), .int (nI (a.1 4)), .int (nI (a.1 0)), .int (nI (a.1 1)), .int (nI (a.1 2)), .int (nI (a.1 3)), .int (nI (a.1 5)), .int (nI (a.1 6))])), (q 10, .inl (cI, 32, .inl (a.2 0))), (q 11, .inl (cI, 32, .inl (a.2 1))), (q 2, .inr (2, [.ref (q 20), .ref (q 21), .int (nI (a.1 8)), .int (nI (a.1 14) - 1), .int (nI (a.1 13))])), (q 20, .inl (cZ, 300, .inl (a.2 2))), (q 21, .inl (cI, 300, .inl (a.2 4))), (q 3, .inr (0, [.ref (q 2), .ref (q 31), .int (nI (a.1 11)), .int (bT a), .int (tT a), .int (nI (a.1 15))])), (q 31, .inl (cI, 100, .inl (a.2 5)))] := hD
  have hS : ∃ (H : Heap) (locs : List Loc), H = s.heap ∧ locs = [] ∧ va_S A s.heap H locs := ⟨_, _, rfl, rfl, hS⟩
  obtain ⟨H, locs, hH, hlocs, hS⟩ := hS
  rw [← hH] at hP
  suffices hW9 : W p l e ({ frames := 0, cells := 0, slots := 0, locals := 0 } : Room) s m [.ref (q 0)].toArray below meth c H locs 0 0 (MQ below (va_Qi (fun (r : Int32) (_ : Unit) => r = (if a.1 11 < 100 then nI (a.1 11) else (-1))) (kB D A (fun (_ : Unit) => XWa cI cZ q a)) A) [.ref (q 0)].toArray s 0 0 A) (F0 m 0 ls []) by rw [hH, hlocs] at hW9; exact hW9
  clear hH hlocs
  refine lv_aload_n hx hb dX3_next_0 rfl (lv_at hl 0 rfl) ?_
  refine va_get (D := D) (ci := 3) (v := .ref (q 3)) (C := RX3) (T := TX3) (N := 4) hx hb hts hinX3 hown hK hP 0 rfl rfl 2 (by decide) (hts _ (List.mem_of_getElem? (i := 1) rfl)) (fun _ h9 => h9) rfl dX3_next_1 ?_
  refine va_getN (D := D) (ci := 0) (v := .int (nI (a.1 11))) (C := RX0) (T := TX0) (N := 6) hx hb hts hinX0 hown hK hP 7 rfl rfl 2 (by decide) (va_Nw.use rfl hN.f132) (fun _ h9 => h9) rfl dX3_next_4 ?_
  refine lv_bipush (v := nI 100) hx hb dX3_next_7 (by decide) ?_
  refine k_icmp_ge (tgt := 22) hx hb (by omega) (by omega) dX3_next_9 (by decide) (fun c_9 => ?_) (fun c_9 => ?_)
  · -- c_9 taken
    refine lv_iconst (v := (-1)) hx hb dX3_next_22 (by decide) ?_
    exact k_iret (v := (-1)) hx hb hr hlk rfl () ((if_neg (by omega)).symm) hP hD hS dX3_next_23
  · -- c_9 not taken
    refine lv_aload_n hx hb dX3_next_12 rfl (lv_at hl 0 rfl) ?_
    refine va_get (D := D) (ci := 3) (v := .ref (q 3)) (C := RX3) (T := TX3) (N := 4) hx hb hts hinX3 hown hK hP 0 rfl rfl 2 (by decide) (hts _ (List.mem_of_getElem? (i := 1) rfl)) (fun _ h9 => h9) rfl dX3_next_13 ?_
    refine va_getN (D := D) (ci := 0) (v := .int (nI (a.1 11))) (C := RX0) (T := TX0) (N := 6) hx hb hts hinX0 hown hK hP 7 rfl rfl 2 (by decide) (va_Nw.use rfl hN.f132) (fun _ h9 => h9) rfl dX3_next_16 ?_
    refine lv_goto (tgt := 23) hx hb dX3_next_19 (by decide) ?_
    exact k_iret (v := nI (a.1 11)) hx hb hr hlk rfl () ((if_pos c_9).symm) hP hD hS dX3_next_23
set_option maxHeartbeats 4000000 in
set_option maxRecDepth 100000 in
theorem c_X3_turn (l : Launch) (D : va_G) (cI cZ : ClassId) (q : Nat → Nat) (a : AS) : kMi l yX3_turn wsX3_turn 0 0 D (TY cI cZ) [.ref (q 0)] [(q 0, .inr (3, [.ref (q 1), .ref (q 2), .ref (q 3), .int (nI (a.1 7))])), (q 1, .inr (1, [.ref (q 10), .ref (q 11), .int (nI (a.1 4)), .int (nI (a.1 0)), .int (nI (a.1 1)), .int (nI (a.1 2)), .int (nI (a.1 3)), .int (nI (a.1 5)), .int (nI (a.1 6))])), (q 10, .inl (cI, 32, .inl (a.2 0))), (q 11, .inl (cI, 32, .inl (a.2 1))), (q 2, .inr (2, [.ref (q 20), .ref (q 21), .int (nI (a.1 8)), .int (nI (a.1 14) - 1), .int (nI (a.1 13))])), (q 20, .inl (cZ, 300, .inl (a.2 2))), (q 21, .inl (cI, 300, .inl (a.2 4))), (q 3, .inr (0, [.ref (q 2), .ref (q 31), .int (nI (a.1 11)), .int (bT a), .int (tT a), .int (nI (a.1 15))])), (q 31, .inl (cI, 100, .inl (a.2 5)))] (fun (r : Int32) (_ : Unit) => r = tT a) (fun (_ : Unit) => XWa cI cZ q a) := by
  intro sz
  refine k_in (Qc := fun A => va_Qi (fun (r : Int32) (_ : Unit) => r = tT a) (kB D A (fun (_ : Unit) => XWa cI cZ q a)) A) (cc := cX3_turn) (maxL := 1) (ret := (some .int)) (by decide) rfl (Nat.le_of_ble_eq_true rfl) ?_
  intro p e s m below meth c A ls hfix hr hlk hN hP hK hD hA hS hl
  have hfix : CallFix p m c cX3_turn 1 s [.ref (q 0)].toArray wsX3_turn RX3 := hfix
  have hl : lv_has ls 1 [(0, .ref (q 0))] := hl
  obtain ⟨hx, hb, hml, hown, hts⟩ := id hfix
  have hinX0 : ∀ w ∈ wsX00, w ∈ wsX3_turn := fun _ h => List.mem_cons_of_mem _ (List.mem_append_right _ h)
  have hinX3 : ∀ w ∈ wsX30, w ∈ wsX3_turn := fun _ h => List.mem_cons_of_mem _ (List.mem_append_left _ (List.mem_append_right _ h))
  have hP : va_P D vwCl [(q 0, .inr (3, [.ref (q 1), .ref (q 2), .ref (q 3), .int (nI (a.1 7))])), (q 1, .inr (1, [.ref (q 10), .ref (q 11), .int (nI (a.1 4)), .int (nI (a.1 0)), .int (nI (a.1 1)), .int (nI (a.1 2)), .int (nI (a.1 3)), .int (nI (a.1 5)), .int (nI (a.1 6))])), (q 10, .inl (cI, 32, .inl (a.2 0))), (q 11, .inl (cI, 32, .inl (a.2 1))), (q 2, .inr (2, [.ref (q 20), .ref (q 21), .int (nI (a.1 8)), .int (nI (a.1 14) - 1), .int (nI (a.1 13))])), (q 20, .inl (cZ, 300, .inl (a.2 2))), (q 21, .inl (cI, 300, .inl (a.2 4))), (q 3, .inr (0, [.ref (q 2), .ref (q 31), .int (nI (a.1 11)), .int (bT a), .int (tT a), .int (nI (a.1 15))])), (q 31, .inl (cI, 100, .inl (a.2 5)))] s.heap := hP
  have hD : va_D A [(q 0, .inr (3, [.ref (q 1), .ref (q 2), .ref (q 3), .int (nI (a.1 7))])), (q 1, .inr (1, [.ref (q 10), .ref (q 11), .int (nI (a.1 4)), .int (nI (a.1 0)), .int (nI (a.1 1)), .int (nI (a.1 2)), .int (nI (a.1 3)), .int (nI (a.1 5)), .int (nI (a.1 6))])), (q 10, .inl (cI, 32, .inl (a.2 0))), (q 11, .inl (cI, 32, .inl (a.2 1))), (q 2, .inr (2, [.ref (q 20), .ref (q 21), .int (nI (a.1 8)), .int (nI (a.1 14) - 1), .int (nI (a.1 13))])), (q 20, .inl (cZ, 300, .inl (a.2 2))), (q 21, .inl (cI, 300, .inl (a.2 4))), (q 3, .inr (0, [.ref (q 2), .ref (q 31), .int (nI (a.1 11)), .int (bT a), .int (tT a), .int (nI (a.1 15))])), (q 31, .inl (cI, 100, .inl (a.2 5)))] := hD
  have hS : ∃ (H : Heap) (locs : List Loc), H = s.heap ∧ locs = [] ∧ va_S A s.heap H locs := ⟨_, _, rfl, rfl, hS⟩
  obtain ⟨H, locs, hH, hlocs, hS⟩ := hS
  rw [← hH] at hP
  suffices hW9 : W p l e ({ frames := 0, cells := 0, slots := 0, locals := 0 } : Room) s m [.ref (q 0)].toArray below meth c H locs 0 0 (MQ below (va_Qi (fun (r : Int32) (_ : Unit) => r = tT a) (kB D A (fun (_ : Unit) => XWa cI cZ q a)) A) [.ref (q 0)].toArray s 0 0 A) (F0 m 0 ls []) by rw [hH, hlocs] at hW9; exact hW9
  clear hH hlocs
  refine lv_aload_n hx hb dX3_turn_0 rfl (lv_at hl 0 rfl) ?_
  refine va_get (D := D) (ci := 3) (v := .ref (q 3)) (C := RX3) (T := TX3) (N := 4) hx hb hts hinX3 hown hK hP 0 rfl rfl 2 (by decide) (hts _ (List.mem_of_getElem? (i := 1) rfl)) (fun _ h9 => h9) rfl dX3_turn_1 ?_
  refine va_getN (D := D) (ci := 0) (v := .int (tT a)) (C := RX0) (T := TX0) (N := 6) hx hb hts hinX0 hown hK hP 7 rfl rfl 4 (by decide) (va_Nw.use rfl hN.f135) (fun _ h9 => h9) rfl dX3_turn_4 ?_
  exact k_iret (v := (tT a)) hx hb hr hlk rfl () rfl hP hD hS dX3_turn_7
set_option maxHeartbeats 4000000 in
set_option maxRecDepth 100000 in
theorem c_X3_fill (l : Launch) (D : va_G) (cI cZ : ClassId) (q : Nat → Nat) (a : AS) (hI : AI a) : kMi l yX3_fill wsX3_fill 2 44 D (TY cI cZ) [.ref (q 0)] [(q 0, .inr (3, [.ref (q 1), .ref (q 2), .ref (q 3), .int (nI (a.1 7))])), (q 1, .inr (1, [.ref (q 10), .ref (q 11), .int (nI (a.1 4)), .int (nI (a.1 0)), .int (nI (a.1 1)), .int (nI (a.1 2)), .int (nI (a.1 3)), .int (nI (a.1 5)), .int (nI (a.1 6))])), (q 10, .inl (cI, 32, .inl (a.2 0))), (q 11, .inl (cI, 32, .inl (a.2 1))), (q 2, .inr (2, [.ref (q 20), .ref (q 21), .int (nI (a.1 8)), .int (nI (a.1 14) - 1), .int (nI (a.1 13))])), (q 20, .inl (cZ, 300, .inl (a.2 2))), (q 21, .inl (cI, 300, .inl (a.2 4))), (q 3, .inr (0, [.ref (q 2), .ref (q 31), .int (nI (a.1 11)), .int (bT a), .int (tT a), .int (nI (a.1 15))])), (q 31, .inl (cI, 100, .inl (a.2 5)))] (fun (r : Int32) (_ : Unit) => r = nI (a_fill a)) (fun (_ : Unit) => XWa cI cZ q a) := by
  obtain ⟨⟨i0, i4, i5, i7, i9, i10, i11, i12⟩, ⟨i1, i2, i3⟩, ⟨i8, i13, i14⟩, iQ, iH0, iH1, iW0, iW1, iN⟩ := id hI
  intro sz
  refine k_in (Qc := fun A => va_Qi (fun (r : Int32) (_ : Unit) => r = nI (a_fill a)) (kB D A (fun (_ : Unit) => XWa cI cZ q a)) A) (cc := cX3_fill) (maxL := 1) (ret := (some .int)) (by decide) rfl (Nat.le_of_ble_eq_true rfl) ?_
  intro p e s m below meth c A ls hfix hr hlk hN hP hK hD hA hS hl
  have hfix : CallFix p m c cX3_fill 1 s [.ref (q 0)].toArray wsX3_fill RX3 := hfix
  have hl : lv_has ls 1 [(0, .ref (q 0))] := hl
  obtain ⟨hx, hb, hml, hown, hts⟩ := id hfix
  have hinX3 : ∀ w ∈ wsX30, w ∈ wsX3_fill := fun _ h => List.mem_cons_of_mem _ (List.mem_append_left _ (List.mem_append_left _ (List.mem_append_right _ h)))
  have hP : va_P D vwCl [(q 0, .inr (3, [.ref (q 1), .ref (q 2), .ref (q 3), .int (nI (a.1 7))])), (q 1, .inr (1, [.ref (q 10), .ref (q 11), .int (nI (a.1 4)), .int (nI (a.1 0)), .int (nI (a.1 1)), .int (nI (a.1 2)), .int (nI (a.1 3)), .int (nI (a.1 5)), .int (nI (a.1 6))])), (q 10, .inl (cI, 32, .inl (a.2 0))), (q 11, .inl (cI, 32, .inl (a.2 1))), (q 2, .inr (2, [.ref (q 20), .ref (q 21), .int (nI (a.1 8)), .int (nI (a.1 14) - 1), .int (nI (a.1 13))])), (q 20, .inl (cZ, 300, .inl (a.2 2))), (q 21, .inl (cI, 300, .inl (a.2 4))), (q 3, .inr (0, [.ref (q 2), .ref (q 31), .int (nI (a.1 11)), .int (bT a), .int (tT a), .int (nI (a.1 15))])), (q 31, .inl (cI, 100, .inl (a.2 5)))] s.heap := hP
  have hD : va_D A [(q 0, .inr (3, [.ref (q 1), .ref (q 2), .ref (q 3), .int (nI (a.1 7))])), (q 1, .inr (1, [.ref (q 10), .ref (q 11), .int (nI (a.1 4)), .int (nI (a.1 0)), .int (nI (a.1 1)), .int (nI (a.1 2)), .int (nI (a.1 3)), .int (nI (a.1 5)), .int (nI (a.1 6))])), (q 10, .inl (cI, 32, .inl (a.2 0))), (q 11, .inl (cI, 32, .inl (a.2 1))), (q 2, .inr (2, [.ref (q 20), .ref (q 21), .int (nI (a.1 8)), .int (nI (a.1 14) - 1), .int (nI (a.1 13))])), (q 20, .inl (cZ, 300, .inl (a.2 2))), (q 21, .inl (cI, 300, .inl (a.2 4))), (q 3, .inr (0, [.ref (q 2), .ref (q 31), .int (nI (a.1 11)), .int (bT a), .int (tT a), .int (nI (a.1 15))])), (q 31, .inl (cI, 100, .inl (a.2 5)))] := hD
  have hS : ∃ (H : Heap) (locs : List Loc), H = s.heap ∧ locs = [] ∧ va_S A s.heap H locs := ⟨_, _, rfl, rfl, hS⟩
  obtain ⟨H, locs, hH, hlocs, hS⟩ := hS
  rw [← hH] at hP
  suffices hW9 : W p l e ({ frames := 2, cells := 0, slots := 0, locals := 44 } : Room) s m [.ref (q 0)].toArray below meth c H locs 0 0 (MQ below (va_Qi (fun (r : Int32) (_ : Unit) => r = nI (a_fill a)) (kB D A (fun (_ : Unit) => XWa cI cZ q a)) A) [.ref (q 0)].toArray s 0 0 A) (F0 m 0 ls []) by rw [hH, hlocs] at hW9; exact hW9
  clear hH hlocs
  refine lv_aload_n hx hb dX3_fill_0 rfl (lv_at hl 0 rfl) ?_
  refine va_get (D := D) (ci := 3) (v := .ref (q 3)) (C := RX3) (T := TX3) (N := 4) hx hb hts hinX3 hown hK hP 0 rfl rfl 2 (by decide) (hts _ (List.mem_of_getElem? (i := 1) rfl)) (fun _ h9 => h9) rfl dX3_fill_1 ?_
  refine k_callVi (n := 0) (wr := [(q 0, .inr (3, [.ref (q 1), .ref (q 2), .ref (q 3), .int (nI (a.1 7))])), (q 1, .inr (1, [.ref (q 10), .ref (q 11), .int (nI (a.1 4)), .int (nI (a.1 0)), .int (nI (a.1 1)), .int (nI (a.1 2)), .int (nI (a.1 3)), .int (nI (a.1 5)), .int (nI (a.1 6))])), (q 10, .inl (cI, 32, .inl (a.2 0))), (q 11, .inl (cI, 32, .inl (a.2 1)))]) (As := []) (rest := []) hfix hN hK hP hD hS hA hl.1 (c_X0_wholeAhead l D cI cZ q a (bT a) (tT a) (by omega)) gX3_fill_X0_wholeAhead rfl (by decide +kernel) rfl ⟨Nat.le_of_ble_eq_true rfl, Nat.le_of_ble_eq_true rfl⟩ [7, 8, 4, 5, 6] [0, 1, 2, 3] rfl rfl (by decide) (by decide) (by decide) 7 rfl rfl rfl (Nat.le_of_ble_eq_true rfl) ⟨Nat.zero_le _, Nat.zero_le _⟩ dX3_fill_4 (fun r_4 u H locs hw_4 hP hD hS => ?_)
  have hP : va_P D vwCl [(q 0, .inr (3, [.ref (q 1), .ref (q 2), .ref (q 3), .int (nI (a.1 7))])), (q 1, .inr (1, [.ref (q 10), .ref (q 11), .int (nI (a.1 4)), .int (nI (a.1 0)), .int (nI (a.1 1)), .int (nI (a.1 2)), .int (nI (a.1 3)), .int (nI (a.1 5)), .int (nI (a.1 6))])), (q 10, .inl (cI, 32, .inl (a.2 0))), (q 11, .inl (cI, 32, .inl (a.2 1))), (q 2, .inr (2, [.ref (q 20), .ref (q 21), .int (nI (a.1 8)), .int (nI (a.1 14) - 1), .int (nI (a.1 13))])), (q 20, .inl (cZ, 300, .inl (a.2 2))), (q 21, .inl (cI, 300, .inl (a.2 4))), (q 3, .inr (0, [.ref (q 2), .ref (q 31), .int (nI (a.1 11)), .int (bT a), .int (tT a), .int (nI (a.1 15))])), (q 31, .inl (cI, 100, .inl (a.2 5)))] H := hP.sub [0, 1, 2, 3, 6, 7, 8, 4, 5] rfl
  have hD : va_D A [(q 0, .inr (3, [.ref (q 1), .ref (q 2), .ref (q 3), .int (nI (a.1 7))])), (q 1, .inr (1, [.ref (q 10), .ref (q 11), .int (nI (a.1 4)), .int (nI (a.1 0)), .int (nI (a.1 1)), .int (nI (a.1 2)), .int (nI (a.1 3)), .int (nI (a.1 5)), .int (nI (a.1 6))])), (q 10, .inl (cI, 32, .inl (a.2 0))), (q 11, .inl (cI, 32, .inl (a.2 1))), (q 2, .inr (2, [.ref (q 20), .ref (q 21), .int (nI (a.1 8)), .int (nI (a.1 14) - 1), .int (nI (a.1 13))])), (q 20, .inl (cZ, 300, .inl (a.2 2))), (q 21, .inl (cI, 300, .inl (a.2 4))), (q 3, .inr (0, [.ref (q 2), .ref (q 31), .int (nI (a.1 11)), .int (bT a), .int (tT a), .int (nI (a.1 15))])), (q 31, .inl (cI, 100, .inl (a.2 5)))] := hD.sub [0, 1, 2, 3, 6, 7, 8, 4, 5] (by decide) rfl
  obtain rfl : r_4 = nI (a_fill a) := hw_4
  exact k_iret (v := nI (a_fill a)) hx hb hr hlk rfl () rfl hP hD hS dX3_fill_7
set_option maxHeartbeats 4000000 in
set_option maxRecDepth 100000 in
theorem c_X3_shown (l : Launch) (D : va_G) (cI cZ : ClassId) (q : Nat → Nat) (a : AS) : kMi l yX3_shown wsX3_shown 0 0 D (TY cI cZ) [.ref (q 0)] [(q 0, .inr (3, [.ref (q 1), .ref (q 2), .ref (q 3), .int (nI (a.1 7))])), (q 1, .inr (1, [.ref (q 10), .ref (q 11), .int (nI (a.1 4)), .int (nI (a.1 0)), .int (nI (a.1 1)), .int (nI (a.1 2)), .int (nI (a.1 3)), .int (nI (a.1 5)), .int (nI (a.1 6))])), (q 10, .inl (cI, 32, .inl (a.2 0))), (q 11, .inl (cI, 32, .inl (a.2 1))), (q 2, .inr (2, [.ref (q 20), .ref (q 21), .int (nI (a.1 8)), .int (nI (a.1 14) - 1), .int (nI (a.1 13))])), (q 20, .inl (cZ, 300, .inl (a.2 2))), (q 21, .inl (cI, 300, .inl (a.2 4))), (q 3, .inr (0, [.ref (q 2), .ref (q 31), .int (nI (a.1 11)), .int (bT a), .int (tT a), .int (nI (a.1 15))])), (q 31, .inl (cI, 100, .inl (a.2 5)))] (fun (r : Int32) (_ : Unit) => r = nI (a.1 15)) (fun (_ : Unit) => XWa cI cZ q a) := by
  intro sz
  refine k_in (Qc := fun A => va_Qi (fun (r : Int32) (_ : Unit) => r = nI (a.1 15)) (kB D A (fun (_ : Unit) => XWa cI cZ q a)) A) (cc := cX3_shown) (maxL := 1) (ret := (some .int)) (by decide) rfl (Nat.le_of_ble_eq_true rfl) ?_
  intro p e s m below meth c A ls hfix hr hlk hN hP hK hD hA hS hl
  have hfix : CallFix p m c cX3_shown 1 s [.ref (q 0)].toArray wsX3_shown RX3 := hfix
  have hl : lv_has ls 1 [(0, .ref (q 0))] := hl
  obtain ⟨hx, hb, hml, hown, hts⟩ := id hfix
  have hinX0 : ∀ w ∈ wsX00, w ∈ wsX3_shown := fun _ h => List.mem_cons_of_mem _ (List.mem_append_right _ h)
  have hinX3 : ∀ w ∈ wsX30, w ∈ wsX3_shown := fun _ h => List.mem_cons_of_mem _ (List.mem_append_left _ (List.mem_append_right _ h))
  have hP : va_P D vwCl [(q 0, .inr (3, [.ref (q 1), .ref (q 2), .ref (q 3), .int (nI (a.1 7))])), (q 1, .inr (1, [.ref (q 10), .ref (q 11), .int (nI (a.1 4)), .int (nI (a.1 0)), .int (nI (a.1 1)), .int (nI (a.1 2)), .int (nI (a.1 3)), .int (nI (a.1 5)), .int (nI (a.1 6))])), (q 10, .inl (cI, 32, .inl (a.2 0))), (q 11, .inl (cI, 32, .inl (a.2 1))), (q 2, .inr (2, [.ref (q 20), .ref (q 21), .int (nI (a.1 8)), .int (nI (a.1 14) - 1), .int (nI (a.1 13))])), (q 20, .inl (cZ, 300, .inl (a.2 2))), (q 21, .inl (cI, 300, .inl (a.2 4))), (q 3, .inr (0, [.ref (q 2), .ref (q 31), .int (nI (a.1 11)), .int (bT a), .int (tT a), .int (nI (a.1 15))])), (q 31, .inl (cI, 100, .inl (a.2 5)))] s.heap := hP
  have hD : va_D A [(q 0, .inr (3, [.ref (q 1), .ref (q 2), .ref (q 3), .int (nI (a.1 7))])), (q 1, .inr (1, [.ref (q 10), .ref (q 11), .int (nI (a.1 4)), .int (nI (a.1 0)), .int (nI (a.1 1)), .int (nI (a.1 2)), .int (nI (a.1 3)), .int (nI (a.1 5)), .int (nI (a.1 6))])), (q 10, .inl (cI, 32, .inl (a.2 0))), (q 11, .inl (cI, 32, .inl (a.2 1))), (q 2, .inr (2, [.ref (q 20), .ref (q 21), .int (nI (a.1 8)), .int (nI (a.1 14) - 1), .int (nI (a.1 13))])), (q 20, .inl (cZ, 300, .inl (a.2 2))), (q 21, .inl (cI, 300, .inl (a.2 4))), (q 3, .inr (0, [.ref (q 2), .ref (q 31), .int (nI (a.1 11)), .int (bT a), .int (tT a), .int (nI (a.1 15))])), (q 31, .inl (cI, 100, .inl (a.2 5)))] := hD
  have hS : ∃ (H : Heap) (locs : List Loc), H = s.heap ∧ locs = [] ∧ va_S A s.heap H locs := ⟨_, _, rfl, rfl, hS⟩
  obtain ⟨H, locs, hH, hlocs, hS⟩ := hS
  rw [← hH] at hP
  suffices hW9 : W p l e ({ frames := 0, cells := 0, slots := 0, locals := 0 } : Room) s m [.ref (q 0)].toArray below meth c H locs 0 0 (MQ below (va_Qi (fun (r : Int32) (_ : Unit) => r = nI (a.1 15)) (kB D A (fun (_ : Unit) => XWa cI cZ q a)) A) [.ref (q 0)].toArray s 0 0 A) (F0 m 0 ls []) by rw [hH, hlocs] at hW9; exact hW9
  clear hH hlocs
  refine lv_aload_n hx hb dX3_shown_0 rfl (lv_at hl 0 rfl) ?_
  refine va_get (D := D) (ci := 3) (v := .ref (q 3)) (C := RX3) (T := TX3) (N := 4) hx hb hts hinX3 hown hK hP 0 rfl rfl 2 (by decide) (hts _ (List.mem_of_getElem? (i := 1) rfl)) (fun _ h9 => h9) rfl dX3_shown_1 ?_
  refine va_getN (D := D) (ci := 0) (v := .int (nI (a.1 15))) (C := RX0) (T := TX0) (N := 6) hx hb hts hinX0 hown hK hP 7 rfl rfl 5 (by decide) (va_Nw.use rfl hN.f141) (fun _ h9 => h9) rfl dX3_shown_4 ?_
  exact k_iret (v := nI (a.1 15)) hx hb hr hlk rfl () rfl hP hD hS dX3_shown_7
set_option maxHeartbeats 4000000 in
set_option maxRecDepth 100000 in
theorem c_X3_couldBe (l : Launch) (D : va_G) (cI cZ : ClassId) (q : Nat → Nat) (a : AS) (hI : AI a) : kMi l yX3_couldBe wsX3_couldBe 4 86 D (TY cI cZ) [.ref (q 0)] [(q 0, .inr (3, [.ref (q 1), .ref (q 2), .ref (q 3), .int (nI (a.1 7))])), (q 1, .inr (1, [.ref (q 10), .ref (q 11), .int (nI (a.1 4)), .int (nI (a.1 0)), .int (nI (a.1 1)), .int (nI (a.1 2)), .int (nI (a.1 3)), .int (nI (a.1 5)), .int (nI (a.1 6))])), (q 10, .inl (cI, 32, .inl (a.2 0))), (q 11, .inl (cI, 32, .inl (a.2 1))), (q 2, .inr (2, [.ref (q 20), .ref (q 21), .int (nI (a.1 8)), .int (nI (a.1 14) - 1), .int (nI (a.1 13))])), (q 20, .inl (cZ, 300, .inl (a.2 2))), (q 21, .inl (cI, 300, .inl (a.2 4))), (q 3, .inr (0, [.ref (q 2), .ref (q 31), .int (nI (a.1 11)), .int (bT a), .int (tT a), .int (nI (a.1 15))])), (q 31, .inl (cI, 100, .inl (a.2 5)))] (fun (r : Int32) (_ : Unit) => r = nI (cldN (a.2 2) (a.1 11))) (fun (_ : Unit) => XWa cI cZ q a) := by
  obtain ⟨⟨i0, i4, i5, i7, i9, i10, i11, i12⟩, ⟨i1, i2, i3⟩, ⟨i8, i13, i14⟩, iQ, iH0, iH1, iW0, iW1, iN⟩ := id hI
  intro sz
  refine k_in (Qc := fun A => va_Qi (fun (r : Int32) (_ : Unit) => r = nI (cldN (a.2 2) (a.1 11))) (kB D A (fun (_ : Unit) => XWa cI cZ q a)) A) (cc := cX3_couldBe) (maxL := 1) (ret := (some .int)) (by decide) rfl (Nat.le_of_ble_eq_true rfl) ?_
  intro p e s m below meth c A ls hfix hr hlk hN hP hK hD hA hS hl
  have hfix : CallFix p m c cX3_couldBe 1 s [.ref (q 0)].toArray wsX3_couldBe RX3 := hfix
  have hl : lv_has ls 1 [(0, .ref (q 0))] := hl
  obtain ⟨hx, hb, hml, hown, hts⟩ := id hfix
  have hinX3 : ∀ w ∈ wsX30, w ∈ wsX3_couldBe := fun _ h => List.mem_cons_of_mem _ (List.mem_append_left _ (List.mem_append_left _ (List.mem_append_right _ h)))
  have hP : va_P D vwCl [(q 0, .inr (3, [.ref (q 1), .ref (q 2), .ref (q 3), .int (nI (a.1 7))])), (q 1, .inr (1, [.ref (q 10), .ref (q 11), .int (nI (a.1 4)), .int (nI (a.1 0)), .int (nI (a.1 1)), .int (nI (a.1 2)), .int (nI (a.1 3)), .int (nI (a.1 5)), .int (nI (a.1 6))])), (q 10, .inl (cI, 32, .inl (a.2 0))), (q 11, .inl (cI, 32, .inl (a.2 1))), (q 2, .inr (2, [.ref (q 20), .ref (q 21), .int (nI (a.1 8)), .int (nI (a.1 14) - 1), .int (nI (a.1 13))])), (q 20, .inl (cZ, 300, .inl (a.2 2))), (q 21, .inl (cI, 300, .inl (a.2 4))), (q 3, .inr (0, [.ref (q 2), .ref (q 31), .int (nI (a.1 11)), .int (bT a), .int (tT a), .int (nI (a.1 15))])), (q 31, .inl (cI, 100, .inl (a.2 5)))] s.heap := hP
  have hD : va_D A [(q 0, .inr (3, [.ref (q 1), .ref (q 2), .ref (q 3), .int (nI (a.1 7))])), (q 1, .inr (1, [.ref (q 10), .ref (q 11), .int (nI (a.1 4)), .int (nI (a.1 0)), .int (nI (a.1 1)), .int (nI (a.1 2)), .int (nI (a.1 3)), .int (nI (a.1 5)), .int (nI (a.1 6))])), (q 10, .inl (cI, 32, .inl (a.2 0))), (q 11, .inl (cI, 32, .inl (a.2 1))), (q 2, .inr (2, [.ref (q 20), .ref (q 21), .int (nI (a.1 8)), .int (nI (a.1 14) - 1), .int (nI (a.1 13))])), (q 20, .inl (cZ, 300, .inl (a.2 2))), (q 21, .inl (cI, 300, .inl (a.2 4))), (q 3, .inr (0, [.ref (q 2), .ref (q 31), .int (nI (a.1 11)), .int (bT a), .int (tT a), .int (nI (a.1 15))])), (q 31, .inl (cI, 100, .inl (a.2 5)))] := hD
  have hS : ∃ (H : Heap) (locs : List Loc), H = s.heap ∧ locs = [] ∧ va_S A s.heap H locs := ⟨_, _, rfl, rfl, hS⟩
  obtain ⟨H, locs, hH, hlocs, hS⟩ := hS
  rw [← hH] at hP
  suffices hW9 : W p l e ({ frames := 4, cells := 0, slots := 0, locals := 86 } : Room) s m [.ref (q 0)].toArray below meth c H locs 0 0 (MQ below (va_Qi (fun (r : Int32) (_ : Unit) => r = nI (cldN (a.2 2) (a.1 11))) (kB D A (fun (_ : Unit) => XWa cI cZ q a)) A) [.ref (q 0)].toArray s 0 0 A) (F0 m 0 ls []) by rw [hH, hlocs] at hW9; exact hW9
  clear hH hlocs
  refine lv_aload_n hx hb dX3_couldBe_0 rfl (lv_at hl 0 rfl) ?_
  refine va_get (D := D) (ci := 3) (v := .ref (q 3)) (C := RX3) (T := TX3) (N := 4) hx hb hts hinX3 hown hK hP 0 rfl rfl 2 (by decide) (hts _ (List.mem_of_getElem? (i := 1) rfl)) (fun _ h9 => h9) rfl dX3_couldBe_1 ?_
  refine k_callVi (n := 0) (wr := [(q 0, .inr (3, [.ref (q 1), .ref (q 2), .ref (q 3), .int (nI (a.1 7))])), (q 1, .inr (1, [.ref (q 10), .ref (q 11), .int (nI (a.1 4)), .int (nI (a.1 0)), .int (nI (a.1 1)), .int (nI (a.1 2)), .int (nI (a.1 3)), .int (nI (a.1 5)), .int (nI (a.1 6))])), (q 10, .inl (cI, 32, .inl (a.2 0))), (q 11, .inl (cI, 32, .inl (a.2 1)))]) (As := []) (rest := []) hfix hN hK hP hD hS hA hl.1 (c_X0_countShowable l D cI cZ q a (bT a) (tT a) (by omega)) gX3_couldBe_X0_countShowable rfl (by decide +kernel) rfl ⟨Nat.le_of_ble_eq_true rfl, Nat.le_of_ble_eq_true rfl⟩ [7, 8, 4, 5, 6] [0, 1, 2, 3] rfl rfl (by decide) (by decide) (by decide) 7 rfl rfl rfl (Nat.le_of_ble_eq_true rfl) ⟨Nat.zero_le _, Nat.zero_le _⟩ dX3_couldBe_4 (fun r_4 u H locs hw_4 hP hD hS => ?_)
  have hP : va_P D vwCl [(q 0, .inr (3, [.ref (q 1), .ref (q 2), .ref (q 3), .int (nI (a.1 7))])), (q 1, .inr (1, [.ref (q 10), .ref (q 11), .int (nI (a.1 4)), .int (nI (a.1 0)), .int (nI (a.1 1)), .int (nI (a.1 2)), .int (nI (a.1 3)), .int (nI (a.1 5)), .int (nI (a.1 6))])), (q 10, .inl (cI, 32, .inl (a.2 0))), (q 11, .inl (cI, 32, .inl (a.2 1))), (q 2, .inr (2, [.ref (q 20), .ref (q 21), .int (nI (a.1 8)), .int (nI (a.1 14) - 1), .int (nI (a.1 13))])), (q 20, .inl (cZ, 300, .inl (a.2 2))), (q 21, .inl (cI, 300, .inl (a.2 4))), (q 3, .inr (0, [.ref (q 2), .ref (q 31), .int (nI (a.1 11)), .int (bT a), .int (tT a), .int (nI (a.1 15))])), (q 31, .inl (cI, 100, .inl (a.2 5)))] H := hP.sub [0, 1, 2, 3, 6, 7, 8, 4, 5] rfl
  have hD : va_D A [(q 0, .inr (3, [.ref (q 1), .ref (q 2), .ref (q 3), .int (nI (a.1 7))])), (q 1, .inr (1, [.ref (q 10), .ref (q 11), .int (nI (a.1 4)), .int (nI (a.1 0)), .int (nI (a.1 1)), .int (nI (a.1 2)), .int (nI (a.1 3)), .int (nI (a.1 5)), .int (nI (a.1 6))])), (q 10, .inl (cI, 32, .inl (a.2 0))), (q 11, .inl (cI, 32, .inl (a.2 1))), (q 2, .inr (2, [.ref (q 20), .ref (q 21), .int (nI (a.1 8)), .int (nI (a.1 14) - 1), .int (nI (a.1 13))])), (q 20, .inl (cZ, 300, .inl (a.2 2))), (q 21, .inl (cI, 300, .inl (a.2 4))), (q 3, .inr (0, [.ref (q 2), .ref (q 31), .int (nI (a.1 11)), .int (bT a), .int (tT a), .int (nI (a.1 15))])), (q 31, .inl (cI, 100, .inl (a.2 5)))] := hD.sub [0, 1, 2, 3, 6, 7, 8, 4, 5] (by decide) rfl
  obtain rfl : r_4 = nI (cldN (a.2 2) (a.1 11)) := hw_4
  exact k_iret (v := nI (cldN (a.2 2) (a.1 11))) hx hb hr hlk rfl () rfl hP hD hS dX3_couldBe_7
set_option maxHeartbeats 4000000 in
set_option maxRecDepth 100000 in
theorem c_X3_gap (l : Launch) (D : va_G) (cI cZ : ClassId) (q : Nat → Nat) (a : AS) (hI : AI a) : kMi l yX3_gap wsX3_gap 1 20 D (TY cI cZ) [.ref (q 0)] [(q 0, .inr (3, [.ref (q 1), .ref (q 2), .ref (q 3), .int (nI (a.1 7))])), (q 1, .inr (1, [.ref (q 10), .ref (q 11), .int (nI (a.1 4)), .int (nI (a.1 0)), .int (nI (a.1 1)), .int (nI (a.1 2)), .int (nI (a.1 3)), .int (nI (a.1 5)), .int (nI (a.1 6))])), (q 10, .inl (cI, 32, .inl (a.2 0))), (q 11, .inl (cI, 32, .inl (a.2 1))), (q 2, .inr (2, [.ref (q 20), .ref (q 21), .int (nI (a.1 8)), .int (nI (a.1 14) - 1), .int (nI (a.1 13))])), (q 20, .inl (cZ, 300, .inl (a.2 2))), (q 21, .inl (cI, 300, .inl (a.2 4))), (q 3, .inr (0, [.ref (q 2), .ref (q 31), .int (nI (a.1 11)), .int (bT a), .int (tT a), .int (nI (a.1 15))])), (q 31, .inl (cI, 100, .inl (a.2 5)))] (fun (r : Int32) (_ : Unit) => r = (if a.1 9 = 0 ∨ 100 ≤ a.1 11 then nI 0 else nI (a.1 12) - nI (a.1 10) - nI (10 * a.1 11))) (fun (_ : Unit) => XWa cI cZ q a) := by
  obtain ⟨⟨i0, i4, i5, i7, i9, i10, i11, i12⟩, ⟨i1, i2, i3⟩, ⟨i8, i13, i14⟩, iQ, iH0, iH1, iW0, iW1, iN⟩ := id hI
  intro sz
  refine k_in (Qc := fun A => va_Qi (fun (r : Int32) (_ : Unit) => r = (if a.1 9 = 0 ∨ 100 ≤ a.1 11 then nI 0 else nI (a.1 12) - nI (a.1 10) - nI (10 * a.1 11))) (kB D A (fun (_ : Unit) => XWa cI cZ q a)) A) (cc := cX3_gap) (maxL := 1) (ret := (some .int)) (by decide) rfl (Nat.le_of_ble_eq_true rfl) ?_
  intro p e s m below meth c A ls hfix hr hlk hN hP hK hD hA hS hl
  have hfix : CallFix p m c cX3_gap 1 s [.ref (q 0)].toArray wsX3_gap RX3 := hfix
  have hl : lv_has ls 1 [(0, .ref (q 0))] := hl
  obtain ⟨hx, hb, hml, hown, hts⟩ := id hfix
  have hinX3 : ∀ w ∈ wsX30, w ∈ wsX3_gap := fun _ h => List.mem_cons_of_mem _ (List.mem_append_left _ (List.mem_append_right _ h))
  have hP : va_P D vwCl [(q 0, .inr (3, [.ref (q 1), .ref (q 2), .ref (q 3), .int (nI (a.1 7))])), (q 1, .inr (1, [.ref (q 10), .ref (q 11), .int (nI (a.1 4)), .int (nI (a.1 0)), .int (nI (a.1 1)), .int (nI (a.1 2)), .int (nI (a.1 3)), .int (nI (a.1 5)), .int (nI (a.1 6))])), (q 10, .inl (cI, 32, .inl (a.2 0))), (q 11, .inl (cI, 32, .inl (a.2 1))), (q 2, .inr (2, [.ref (q 20), .ref (q 21), .int (nI (a.1 8)), .int (nI (a.1 14) - 1), .int (nI (a.1 13))])), (q 20, .inl (cZ, 300, .inl (a.2 2))), (q 21, .inl (cI, 300, .inl (a.2 4))), (q 3, .inr (0, [.ref (q 2), .ref (q 31), .int (nI (a.1 11)), .int (bT a), .int (tT a), .int (nI (a.1 15))])), (q 31, .inl (cI, 100, .inl (a.2 5)))] s.heap := hP
  have hD : va_D A [(q 0, .inr (3, [.ref (q 1), .ref (q 2), .ref (q 3), .int (nI (a.1 7))])), (q 1, .inr (1, [.ref (q 10), .ref (q 11), .int (nI (a.1 4)), .int (nI (a.1 0)), .int (nI (a.1 1)), .int (nI (a.1 2)), .int (nI (a.1 3)), .int (nI (a.1 5)), .int (nI (a.1 6))])), (q 10, .inl (cI, 32, .inl (a.2 0))), (q 11, .inl (cI, 32, .inl (a.2 1))), (q 2, .inr (2, [.ref (q 20), .ref (q 21), .int (nI (a.1 8)), .int (nI (a.1 14) - 1), .int (nI (a.1 13))])), (q 20, .inl (cZ, 300, .inl (a.2 2))), (q 21, .inl (cI, 300, .inl (a.2 4))), (q 3, .inr (0, [.ref (q 2), .ref (q 31), .int (nI (a.1 11)), .int (bT a), .int (tT a), .int (nI (a.1 15))])), (q 31, .inl (cI, 100, .inl (a.2 5)))] := hD
  have hS : ∃ (H : Heap) (locs : List Loc), H = s.heap ∧ locs = [] ∧ va_S A s.heap H locs := ⟨_, _, rfl, rfl, hS⟩
  obtain ⟨H, locs, hH, hlocs, hS⟩ := hS
  rw [← hH] at hP
  suffices hW9 : W p l e ({ frames := 1, cells := 0, slots := 0, locals := 20 } : Room) s m [.ref (q 0)].toArray below meth c H locs 0 0 (MQ below (va_Qi (fun (r : Int32) (_ : Unit) => r = (if a.1 9 = 0 ∨ 100 ≤ a.1 11 then nI 0 else nI (a.1 12) - nI (a.1 10) - nI (10 * a.1 11))) (kB D A (fun (_ : Unit) => XWa cI cZ q a)) A) [.ref (q 0)].toArray s 0 0 A) (F0 m 0 ls []) by rw [hH, hlocs] at hW9; exact hW9
  clear hH hlocs
  refine lv_aload_n hx hb dX3_gap_0 rfl (lv_at hl 0 rfl) ?_
  refine va_get (D := D) (ci := 3) (v := .ref (q 3)) (C := RX3) (T := TX3) (N := 4) hx hb hts hinX3 hown hK hP 0 rfl rfl 2 (by decide) (hts _ (List.mem_of_getElem? (i := 1) rfl)) (fun _ h9 => h9) rfl dX3_gap_1 ?_
  refine k_callVi (n := 0) (wr := [(q 0, .inr (3, [.ref (q 1), .ref (q 2), .ref (q 3), .int (nI (a.1 7))])), (q 1, .inr (1, [.ref (q 10), .ref (q 11), .int (nI (a.1 4)), .int (nI (a.1 0)), .int (nI (a.1 1)), .int (nI (a.1 2)), .int (nI (a.1 3)), .int (nI (a.1 5)), .int (nI (a.1 6))])), (q 10, .inl (cI, 32, .inl (a.2 0))), (q 11, .inl (cI, 32, .inl (a.2 1))), (q 2, .inr (2, [.ref (q 20), .ref (q 21), .int (nI (a.1 8)), .int (nI (a.1 14) - 1), .int (nI (a.1 13))])), (q 20, .inl (cZ, 300, .inl (a.2 2))), (q 21, .inl (cI, 300, .inl (a.2 4)))]) (As := []) (rest := []) hfix hN hK hP hD hS hA hl.1 (c_X0_delay l D cI cZ q a hI) gX3_gap_X0_delay rfl (by decide +kernel) rfl ⟨Nat.le_of_ble_eq_true rfl, Nat.le_of_ble_eq_true rfl⟩ [7, 8] [0, 1, 2, 3, 4, 5, 6] rfl rfl (by decide) (by decide) (by decide) 7 rfl rfl rfl (Nat.le_of_ble_eq_true rfl) ⟨Nat.zero_le _, Nat.zero_le _⟩ dX3_gap_4 (fun r_4 u H locs hw_4 hP hD hS => ?_)
  have hP : va_P D vwCl [(q 0, .inr (3, [.ref (q 1), .ref (q 2), .ref (q 3), .int (nI (a.1 7))])), (q 1, .inr (1, [.ref (q 10), .ref (q 11), .int (nI (a.1 4)), .int (nI (a.1 0)), .int (nI (a.1 1)), .int (nI (a.1 2)), .int (nI (a.1 3)), .int (nI (a.1 5)), .int (nI (a.1 6))])), (q 10, .inl (cI, 32, .inl (a.2 0))), (q 11, .inl (cI, 32, .inl (a.2 1))), (q 2, .inr (2, [.ref (q 20), .ref (q 21), .int (nI (a.1 8)), .int (nI (a.1 14) - 1), .int (nI (a.1 13))])), (q 20, .inl (cZ, 300, .inl (a.2 2))), (q 21, .inl (cI, 300, .inl (a.2 4))), (q 3, .inr (0, [.ref (q 2), .ref (q 31), .int (nI (a.1 11)), .int (bT a), .int (tT a), .int (nI (a.1 15))])), (q 31, .inl (cI, 100, .inl (a.2 5)))] H := hP.sub [0, 1, 2, 3, 4, 5, 6, 7, 8] rfl
  have hD : va_D A [(q 0, .inr (3, [.ref (q 1), .ref (q 2), .ref (q 3), .int (nI (a.1 7))])), (q 1, .inr (1, [.ref (q 10), .ref (q 11), .int (nI (a.1 4)), .int (nI (a.1 0)), .int (nI (a.1 1)), .int (nI (a.1 2)), .int (nI (a.1 3)), .int (nI (a.1 5)), .int (nI (a.1 6))])), (q 10, .inl (cI, 32, .inl (a.2 0))), (q 11, .inl (cI, 32, .inl (a.2 1))), (q 2, .inr (2, [.ref (q 20), .ref (q 21), .int (nI (a.1 8)), .int (nI (a.1 14) - 1), .int (nI (a.1 13))])), (q 20, .inl (cZ, 300, .inl (a.2 2))), (q 21, .inl (cI, 300, .inl (a.2 4))), (q 3, .inr (0, [.ref (q 2), .ref (q 31), .int (nI (a.1 11)), .int (bT a), .int (tT a), .int (nI (a.1 15))])), (q 31, .inl (cI, 100, .inl (a.2 5)))] := hD.sub [0, 1, 2, 3, 4, 5, 6, 7, 8] (by decide) rfl
  by_cases e_4 : a.1 9 = 0 ∨ 100 ≤ a.1 11
  · rw [if_pos e_4] at hw_4
    obtain rfl : r_4 = nI 0 := hw_4
    exact k_iret (v := nI 0) hx hb hr hlk rfl () ((if_pos e_4).symm) hP hD hS dX3_gap_7
  · rw [if_neg e_4] at hw_4
    obtain rfl : r_4 = (nI (a.1 12) - nI (a.1 10) - nI (10 * a.1 11)) := hw_4
    exact k_iret (v := (nI (a.1 12) - nI (a.1 10) - nI (10 * a.1 11))) hx hb hr hlk rfl () ((if_neg e_4).symm) hP hD hS dX3_gap_7
set_option maxHeartbeats 4000000 in
set_option maxRecDepth 100000 in
theorem c_X3_reset (l : Launch) (D : va_G) (cI cZ : ClassId) (q : Nat → Nat) (a : AS) : kMi l yX3_reset wsX3_reset 1 21 D (TY cI cZ) [.ref (q 0)] [(q 0, .inr (3, [.ref (q 1), .ref (q 2), .ref (q 3), .int (nI (a.1 7))])), (q 1, .inr (1, [.ref (q 10), .ref (q 11), .int (nI (a.1 4)), .int (nI (a.1 0)), .int (nI (a.1 1)), .int (nI (a.1 2)), .int (nI (a.1 3)), .int (nI (a.1 5)), .int (nI (a.1 6))])), (q 10, .inl (cI, 32, .inl (a.2 0))), (q 11, .inl (cI, 32, .inl (a.2 1))), (q 2, .inr (2, [.ref (q 20), .ref (q 21), .int (nI (a.1 8)), .int (nI (a.1 14) - 1), .int (nI (a.1 13))])), (q 20, .inl (cZ, 300, .inl (a.2 2))), (q 21, .inl (cI, 300, .inl (a.2 4))), (q 3, .inr (0, [.ref (q 2), .ref (q 31), .int (nI (a.1 11)), .int (bT a), .int (tT a), .int (nI (a.1 15))])), (q 31, .inl (cI, 100, .inl (a.2 5)))] (fun (r : Int32) (_ : Unit) => r = nI (a.1 4)) (fun (_ : Unit) => XWa cI cZ q (a_reset a)) := by
  intro sz
  refine k_in (Qc := fun A => va_Qi (fun (r : Int32) (_ : Unit) => r = nI (a.1 4)) (kB D A (fun (_ : Unit) => XWa cI cZ q (a_reset a))) A) (cc := cX3_reset) (maxL := 1) (ret := (some .int)) (by decide) rfl (Nat.le_of_ble_eq_true rfl) ?_
  intro p e s m below meth c A ls hfix hr hlk hN hP hK hD hA hS hl
  have hfix : CallFix p m c cX3_reset 1 s [.ref (q 0)].toArray wsX3_reset RX3 := hfix
  have hl : lv_has ls 1 [(0, .ref (q 0))] := hl
  obtain ⟨hx, hb, hml, hown, hts⟩ := id hfix
  have hinX3 : ∀ w ∈ wsX30, w ∈ wsX3_reset := fun _ h => List.mem_cons_of_mem _ (List.mem_append_left _ (List.mem_append_right _ h))
  have hP : va_P D vwCl [(q 0, .inr (3, [.ref (q 1), .ref (q 2), .ref (q 3), .int (nI (a.1 7))])), (q 1, .inr (1, [.ref (q 10), .ref (q 11), .int (nI (a.1 4)), .int (nI (a.1 0)), .int (nI (a.1 1)), .int (nI (a.1 2)), .int (nI (a.1 3)), .int (nI (a.1 5)), .int (nI (a.1 6))])), (q 10, .inl (cI, 32, .inl (a.2 0))), (q 11, .inl (cI, 32, .inl (a.2 1))), (q 2, .inr (2, [.ref (q 20), .ref (q 21), .int (nI (a.1 8)), .int (nI (a.1 14) - 1), .int (nI (a.1 13))])), (q 20, .inl (cZ, 300, .inl (a.2 2))), (q 21, .inl (cI, 300, .inl (a.2 4))), (q 3, .inr (0, [.ref (q 2), .ref (q 31), .int (nI (a.1 11)), .int (bT a), .int (tT a), .int (nI (a.1 15))])), (q 31, .inl (cI, 100, .inl (a.2 5)))] s.heap := hP
  have hD : va_D A [(q 0, .inr (3, [.ref (q 1), .ref (q 2), .ref (q 3), .int (nI (a.1 7))])), (q 1, .inr (1, [.ref (q 10), .ref (q 11), .int (nI (a.1 4)), .int (nI (a.1 0)), .int (nI (a.1 1)), .int (nI (a.1 2)), .int (nI (a.1 3)), .int (nI (a.1 5)), .int (nI (a.1 6))])), (q 10, .inl (cI, 32, .inl (a.2 0))), (q 11, .inl (cI, 32, .inl (a.2 1))), (q 2, .inr (2, [.ref (q 20), .ref (q 21), .int (nI (a.1 8)), .int (nI (a.1 14) - 1), .int (nI (a.1 13))])), (q 20, .inl (cZ, 300, .inl (a.2 2))), (q 21, .inl (cI, 300, .inl (a.2 4))), (q 3, .inr (0, [.ref (q 2), .ref (q 31), .int (nI (a.1 11)), .int (bT a), .int (tT a), .int (nI (a.1 15))])), (q 31, .inl (cI, 100, .inl (a.2 5)))] := hD
  have hS : ∃ (H : Heap) (locs : List Loc), H = s.heap ∧ locs = [] ∧ va_S A s.heap H locs := ⟨_, _, rfl, rfl, hS⟩
  obtain ⟨H, locs, hH, hlocs, hS⟩ := hS
  rw [← hH] at hP
  suffices hW9 : W p l e ({ frames := 1, cells := 0, slots := 0, locals := 21 } : Room) s m [.ref (q 0)].toArray below meth c H locs 0 0 (MQ below (va_Qi (fun (r : Int32) (_ : Unit) => r = nI (a.1 4)) (kB D A (fun (_ : Unit) => XWa cI cZ q (a_reset a))) A) [.ref (q 0)].toArray s 0 0 A) (F0 m 0 ls []) by rw [hH, hlocs] at hW9; exact hW9
  clear hH hlocs
  refine lv_aload_n hx hb dX3_reset_0 rfl (lv_at hl 0 rfl) ?_
  refine va_get (D := D) (ci := 3) (v := .ref (q 1)) (C := RX3) (T := TX3) (N := 4) hx hb hts hinX3 hown hK hP 0 rfl rfl 0 (by decide) (hts _ (List.mem_of_getElem? (i := 1) rfl)) (fun _ h9 => h9) rfl dX3_reset_1 ?_
  refine k_callVi (n := 0) (wr := [(q 0, .inr (3, [.ref (q 1), .ref (q 2), .ref (q 3), .int (nI (a.1 7))])), (q 2, .inr (2, [.ref (q 20), .ref (q 21), .int (nI (a.1 8)), .int (nI (a.1 14) - 1), .int (nI (a.1 13))])), (q 20, .inl (cZ, 300, .inl (a.2 2))), (q 21, .inl (cI, 300, .inl (a.2 4))), (q 3, .inr (0, [.ref (q 2), .ref (q 31), .int (nI (a.1 11)), .int (bT a), .int (tT a), .int (nI (a.1 15))])), (q 31, .inl (cI, 100, .inl (a.2 5)))]) (As := []) (rest := []) hfix hN hK hP hD hS hA hl.1 (c_X1_loseAll l D cI cZ q a ) gX3_reset_X1_loseAll rfl (by decide +kernel) rfl ⟨Nat.le_of_ble_eq_true rfl, Nat.le_of_ble_eq_true rfl⟩ [1, 2, 3] [0, 4, 5, 6, 7, 8] rfl rfl (by decide) (by decide) (by decide) 1 rfl rfl rfl (Nat.le_of_ble_eq_true rfl) ⟨Nat.zero_le _, Nat.zero_le _⟩ dX3_reset_4 (fun r_4 u H locs hw_4 hP hD hS => ?_)
  have hP : va_P D vwCl [(q 0, .inr (3, [.ref (q 1), .ref (q 2), .ref (q 3), .int (nI (a.1 7))])), (q 1, .inr (1, [.ref (q 10), .ref (q 11), .int (nI ((a_reset a).1 4)), .int (nI ((a_reset a).1 0)), .int (nI ((a_reset a).1 1)), .int (nI ((a_reset a).1 2)), .int (nI ((a_reset a).1 3)), .int (nI ((a_reset a).1 5)), .int (nI ((a_reset a).1 6))])), (q 10, .inl (cI, 32, .inl ((a_reset a).2 0))), (q 11, .inl (cI, 32, .inl ((a_reset a).2 1))), (q 2, .inr (2, [.ref (q 20), .ref (q 21), .int (nI (a.1 8)), .int (nI (a.1 14) - 1), .int (nI (a.1 13))])), (q 20, .inl (cZ, 300, .inl (a.2 2))), (q 21, .inl (cI, 300, .inl (a.2 4))), (q 3, .inr (0, [.ref (q 2), .ref (q 31), .int (nI (a.1 11)), .int (bT a), .int (tT a), .int (nI (a.1 15))])), (q 31, .inl (cI, 100, .inl (a.2 5)))] H := hP.sub [0, 6, 7, 8, 1, 2, 3, 4, 5] rfl
  have hD : va_D A [(q 0, .inr (3, [.ref (q 1), .ref (q 2), .ref (q 3), .int (nI (a.1 7))])), (q 1, .inr (1, [.ref (q 10), .ref (q 11), .int (nI ((a_reset a).1 4)), .int (nI ((a_reset a).1 0)), .int (nI ((a_reset a).1 1)), .int (nI ((a_reset a).1 2)), .int (nI ((a_reset a).1 3)), .int (nI ((a_reset a).1 5)), .int (nI ((a_reset a).1 6))])), (q 10, .inl (cI, 32, .inl ((a_reset a).2 0))), (q 11, .inl (cI, 32, .inl ((a_reset a).2 1))), (q 2, .inr (2, [.ref (q 20), .ref (q 21), .int (nI (a.1 8)), .int (nI (a.1 14) - 1), .int (nI (a.1 13))])), (q 20, .inl (cZ, 300, .inl (a.2 2))), (q 21, .inl (cI, 300, .inl (a.2 4))), (q 3, .inr (0, [.ref (q 2), .ref (q 31), .int (nI (a.1 11)), .int (bT a), .int (tT a), .int (nI (a.1 15))])), (q 31, .inl (cI, 100, .inl (a.2 5)))] := hD.sub [0, 6, 7, 8, 1, 2, 3, 4, 5] (by decide) rfl
  obtain rfl : r_4 = nI (a.1 4) := hw_4
  exact k_iret (v := nI (a.1 4)) hx hb hr hlk rfl () rfl hP hD hS dX3_reset_7
set_option maxHeartbeats 4000000 in
set_option maxRecDepth 100000 in
theorem c_X3_passTick (l : Launch) (D : va_G) (cI cZ : ClassId) (q : Nat → Nat) (a : AS) (hI : AI a) : kMv l yX3_passTick wsX3_passTick 5 110 D (TY cI cZ) [.ref (q 0)] [(q 0, .inr (3, [.ref (q 1), .ref (q 2), .ref (q 3), .int (nI (a.1 7))])), (q 1, .inr (1, [.ref (q 10), .ref (q 11), .int (nI (a.1 4)), .int (nI (a.1 0)), .int (nI (a.1 1)), .int (nI (a.1 2)), .int (nI (a.1 3)), .int (nI (a.1 5)), .int (nI (a.1 6))])), (q 10, .inl (cI, 32, .inl (a.2 0))), (q 11, .inl (cI, 32, .inl (a.2 1))), (q 2, .inr (2, [.ref (q 20), .ref (q 21), .int (nI (a.1 8)), .int (nI (a.1 14) - 1), .int (nI (a.1 13))])), (q 20, .inl (cZ, 300, .inl (a.2 2))), (q 21, .inl (cI, 300, .inl (a.2 4))), (q 3, .inr (0, [.ref (q 2), .ref (q 31), .int (nI (a.1 11)), .int (bT a), .int (tT a), .int (nI (a.1 15))])), (q 31, .inl (cI, 100, .inl (a.2 5)))] (fun (_ : Unit) => True) (fun (_ : Unit) => XWa cI cZ q (a_pass a)) := by
  obtain ⟨⟨i0, i4, i5, i7, i9, i10, i11, i12⟩, ⟨i1, i2, i3⟩, ⟨i8, i13, i14⟩, iQ, iH0, iH1, iW0, iW1, iN⟩ := id hI
  have hm := a_many_le a
  intro sz
  refine k_in (Qc := fun A => va_Qv (fun (_ : Unit) => True) (kB D A (fun (_ : Unit) => XWa cI cZ q (a_pass a))) A) (cc := cX3_passTick) (maxL := 3) (ret := none) (by decide) rfl (Nat.le_of_ble_eq_true rfl) ?_
  intro p e s m below meth c A ls hfix hr hlk hN hP hK hD hA hS hl
  have hfix : CallFix p m c cX3_passTick 3 s [.ref (q 0)].toArray wsX3_passTick RX3 := hfix
  have hl : lv_has ls 3 [(0, .ref (q 0))] := hl
  obtain ⟨hx, hb, hml, hown, hts⟩ := id hfix
  have hinX0 : ∀ w ∈ wsX00, w ∈ wsX3_passTick := fun _ h => List.mem_cons_of_mem _ (List.mem_append_left _ (List.mem_append_left _ (List.mem_append_right _ h)))
  have hinX3 : ∀ w ∈ wsX30, w ∈ wsX3_passTick := fun _ h => List.mem_cons_of_mem _ (List.mem_append_left _ (List.mem_append_left _ (List.mem_append_left _ (List.mem_append_right _ h))))
  have hP : va_P D vwCl [(q 0, .inr (3, [.ref (q 1), .ref (q 2), .ref (q 3), .int (nI (a.1 7))])), (q 1, .inr (1, [.ref (q 10), .ref (q 11), .int (nI (a.1 4)), .int (nI (a.1 0)), .int (nI (a.1 1)), .int (nI (a.1 2)), .int (nI (a.1 3)), .int (nI (a.1 5)), .int (nI (a.1 6))])), (q 10, .inl (cI, 32, .inl (a.2 0))), (q 11, .inl (cI, 32, .inl (a.2 1))), (q 2, .inr (2, [.ref (q 20), .ref (q 21), .int (nI (a.1 8)), .int (nI (a.1 14) - 1), .int (nI (a.1 13))])), (q 20, .inl (cZ, 300, .inl (a.2 2))), (q 21, .inl (cI, 300, .inl (a.2 4))), (q 3, .inr (0, [.ref (q 2), .ref (q 31), .int (nI (a.1 11)), .int (bT a), .int (tT a), .int (nI (a.1 15))])), (q 31, .inl (cI, 100, .inl (a.2 5)))] s.heap := hP
  have hD : va_D A [(q 0, .inr (3, [.ref (q 1), .ref (q 2), .ref (q 3), .int (nI (a.1 7))])), (q 1, .inr (1, [.ref (q 10), .ref (q 11), .int (nI (a.1 4)), .int (nI (a.1 0)), .int (nI (a.1 1)), .int (nI (a.1 2)), .int (nI (a.1 3)), .int (nI (a.1 5)), .int (nI (a.1 6))])), (q 10, .inl (cI, 32, .inl (a.2 0))), (q 11, .inl (cI, 32, .inl (a.2 1))), (q 2, .inr (2, [.ref (q 20), .ref (q 21), .int (nI (a.1 8)), .int (nI (a.1 14) - 1), .int (nI (a.1 13))])), (q 20, .inl (cZ, 300, .inl (a.2 2))), (q 21, .inl (cI, 300, .inl (a.2 4))), (q 3, .inr (0, [.ref (q 2), .ref (q 31), .int (nI (a.1 11)), .int (bT a), .int (tT a), .int (nI (a.1 15))])), (q 31, .inl (cI, 100, .inl (a.2 5)))] := hD
  have hS : ∃ (H : Heap) (locs : List Loc), H = s.heap ∧ locs = [] ∧ va_S A s.heap H locs := ⟨_, _, rfl, rfl, hS⟩
  obtain ⟨H, locs, hH, hlocs, hS⟩ := hS
  rw [← hH] at hP
  suffices hW9 : W p l e ({ frames := 5, cells := 0, slots := 0, locals := 110 } : Room) s m [.ref (q 0)].toArray below meth c H locs 0 0 (MQ below (va_Qv (fun (_ : Unit) => True) (kB D A (fun (_ : Unit) => XWa cI cZ q (a_pass a))) A) [.ref (q 0)].toArray s 0 0 A) (F0 m 0 ls []) by rw [hH, hlocs] at hW9; exact hW9
  clear hH hlocs
  have at14 : ∀ (n9 : Nat) (k : Nat) (hf9 : (a_many a - k) < n9) (hk : k ≤ a_many a) (H : Heap) (locs : List Loc) (ls : Array Slot) (hP : va_P D vwCl [(q 0, .inr (3, [.ref (q 1), .ref (q 2), .ref (q 3), .int (nI (a.1 7))])), (q 1, .inr (1, [.ref (q 10), .ref (q 11), .int (nI (a.1 4)), .int (nI (a.1 0)), .int (nI (a.1 1)), .int (nI (a.1 2)), .int (nI (a.1 3)), .int (nI (a_polN a)), .int (nI (a.1 6))])), (q 10, .inl (cI, 32, .inl (a.2 0))), (q 11, .inl (cI, 32, .inl (a.2 1))), (q 2, .inr (2, [.ref (q 20), .ref (q 21), .int (nI (a.1 8)), .int (nI (tkP (a.2 0) (a.1 14) k) - 1), .int (nI (a.1 13))])), (q 20, .inl (cZ, 300, .inl (tkH (a.2 0) (a.2 2) k))), (q 21, .inl (cI, 300, .inl (a.2 4))), (q 3, .inr (0, [.ref (q 2), .ref (q 31), .int (nI (a.1 11)), .int (bT a), .int (tT a), .int (nI (a.1 15))])), (q 31, .inl (cI, 100, .inl (a.2 5)))] H) (hD : va_D A [(q 0, .inr (3, [.ref (q 1), .ref (q 2), .ref (q 3), .int (nI (a.1 7))])), (q 1, .inr (1, [.ref (q 10), .ref (q 11), .int (nI (a.1 4)), .int (nI (a.1 0)), .int (nI (a.1 1)), .int (nI (a.1 2)), .int (nI (a.1 3)), .int (nI (a_polN a)), .int (nI (a.1 6))])), (q 10, .inl (cI, 32, .inl (a.2 0))), (q 11, .inl (cI, 32, .inl (a.2 1))), (q 2, .inr (2, [.ref (q 20), .ref (q 21), .int (nI (a.1 8)), .int (nI (tkP (a.2 0) (a.1 14) k) - 1), .int (nI (a.1 13))])), (q 20, .inl (cZ, 300, .inl (tkH (a.2 0) (a.2 2) k))), (q 21, .inl (cI, 300, .inl (a.2 4))), (q 3, .inr (0, [.ref (q 2), .ref (q 31), .int (nI (a.1 11)), .int (bT a), .int (tT a), .int (nI (a.1 15))])), (q 31, .inl (cI, 100, .inl (a.2 5)))]) (hS : va_S A s.heap H locs) (hl : lv_has ls 3 [(0, .ref (q 0)), (1, .int (nI (a_many a))), (2, .int (nI k))]), W p l e ({ frames := 5, cells := 0, slots := 0, locals := 110 } : Room) s m [.ref (q 0)].toArray below meth c H locs 0 0 (MQ below (va_Qv (fun (_ : Unit) => True) (kB D A (fun (_ : Unit) => XWa cI cZ q (a_pass a))) A) [.ref (q 0)].toArray s 0 0 A) (F0 m 14 ls []) := by
    intro n9
    induction n9 with
    | zero => intro k hf9 hk H locs ls hP hD hS hl; exact absurd hf9 (Nat.not_lt_zero _)
    | succ n9 ih9 =>
      intro k hf9 hk H locs ls hP hD hS hl
      refine lv_iload_n hx hb dX3_passTick_14 rfl (lv_at hl 2 rfl) ?_
      refine lv_iload_n hx hb dX3_passTick_15 rfl (lv_at hl 1 rfl) ?_
      refine k_icmp_ge (tgt := 40) hx hb (by omega) (by omega) dX3_passTick_16 (by decide) (fun c_16 => ?_) (fun c_16 => ?_)
      · -- c_16 taken
        obtain rfl : k = a_many a := by omega
        refine lv_aload_n hx hb dX3_passTick_40 rfl (lv_at hl 0 rfl) ?_
        refine va_get (D := D) (ci := 3) (v := .ref (q 1)) (C := RX3) (T := TX3) (N := 4) hx hb hts hinX3 hown hK hP 0 rfl rfl 0 (by decide) (hts _ (List.mem_of_getElem? (i := 1) rfl)) (fun _ h9 => h9) rfl dX3_passTick_41 ?_
        refine lv_iload_n hx hb dX3_passTick_44 rfl (lv_at hl 1 rfl) ?_
        refine k_callVv (n := 1) (wr := [(q 0, .inr (3, [.ref (q 1), .ref (q 2), .ref (q 3), .int (nI (a.1 7))])), (q 2, .inr (2, [.ref (q 20), .ref (q 21), .int (nI (a.1 8)), .int (nI (tkP (a.2 0) (a.1 14) (a_many a)) - 1), .int (nI (a.1 13))])), (q 20, .inl (cZ, 300, .inl (tkH (a.2 0) (a.2 2) (a_many a)))), (q 21, .inl (cI, 300, .inl (a.2 4))), (q 3, .inr (0, [.ref (q 2), .ref (q 31), .int (nI (a.1 11)), .int (bT a), .int (tT a), .int (nI (a.1 15))])), (q 31, .inl (cI, 100, .inl (a.2 5)))]) (As := [.int (nI (a_many a))]) (rest := []) hfix hN hK hP hD hS hA hl.1 (c_X1_removeFirst l D cI cZ q (sN a 5 (a_polN a)) (show a.1 4 ≤ 32 from i4) (a_many a) (show a_many a ≤ a.1 4 from hm)) gX3_passTick_X1_removeFirst rfl (by decide +kernel) rfl ⟨Nat.le_of_ble_eq_true rfl, Nat.le_of_ble_eq_true rfl⟩ [1, 2, 3] [0, 4, 5, 6, 7, 8] rfl rfl (by decide) (by decide) (by decide) 1 rfl rfl rfl (Nat.le_of_ble_eq_true rfl) ⟨Nat.zero_le _, Nat.zero_le _⟩ dX3_passTick_45 (fun u H locs hw_45 hP hD hS => ?_)
        have hP : va_P D vwCl [(q 0, .inr (3, [.ref (q 1), .ref (q 2), .ref (q 3), .int (nI (a.1 7))])), (q 1, .inr (1, [.ref (q 10), .ref (q 11), .int (nI ((a_rest (a_many a) (sN a 5 (a_polN a))).1 4)), .int (nI ((a_rest (a_many a) (sN a 5 (a_polN a))).1 0)), .int (nI ((a_rest (a_many a) (sN a 5 (a_polN a))).1 1)), .int (nI ((a_rest (a_many a) (sN a 5 (a_polN a))).1 2)), .int (nI ((a_rest (a_many a) (sN a 5 (a_polN a))).1 3)), .int (nI ((a_rest (a_many a) (sN a 5 (a_polN a))).1 5)), .int (nI ((a_rest (a_many a) (sN a 5 (a_polN a))).1 6))])), (q 10, .inl (cI, 32, .inl ((a_rest (a_many a) (sN a 5 (a_polN a))).2 0))), (q 11, .inl (cI, 32, .inl ((a_rest (a_many a) (sN a 5 (a_polN a))).2 1))), (q 2, .inr (2, [.ref (q 20), .ref (q 21), .int (nI (a.1 8)), .int (nI (tkP (a.2 0) (a.1 14) (a_many a)) - 1), .int (nI (a.1 13))])), (q 20, .inl (cZ, 300, .inl (tkH (a.2 0) (a.2 2) (a_many a)))), (q 21, .inl (cI, 300, .inl (a.2 4))), (q 3, .inr (0, [.ref (q 2), .ref (q 31), .int (nI (a.1 11)), .int (bT a), .int (tT a), .int (nI (a.1 15))])), (q 31, .inl (cI, 100, .inl (a.2 5)))] H := hP.sub [0, 6, 7, 8, 1, 2, 3, 4, 5] rfl
        have hD : va_D A [(q 0, .inr (3, [.ref (q 1), .ref (q 2), .ref (q 3), .int (nI (a.1 7))])), (q 1, .inr (1, [.ref (q 10), .ref (q 11), .int (nI ((a_rest (a_many a) (sN a 5 (a_polN a))).1 4)), .int (nI ((a_rest (a_many a) (sN a 5 (a_polN a))).1 0)), .int (nI ((a_rest (a_many a) (sN a 5 (a_polN a))).1 1)), .int (nI ((a_rest (a_many a) (sN a 5 (a_polN a))).1 2)), .int (nI ((a_rest (a_many a) (sN a 5 (a_polN a))).1 3)), .int (nI ((a_rest (a_many a) (sN a 5 (a_polN a))).1 5)), .int (nI ((a_rest (a_many a) (sN a 5 (a_polN a))).1 6))])), (q 10, .inl (cI, 32, .inl ((a_rest (a_many a) (sN a 5 (a_polN a))).2 0))), (q 11, .inl (cI, 32, .inl ((a_rest (a_many a) (sN a 5 (a_polN a))).2 1))), (q 2, .inr (2, [.ref (q 20), .ref (q 21), .int (nI (a.1 8)), .int (nI (tkP (a.2 0) (a.1 14) (a_many a)) - 1), .int (nI (a.1 13))])), (q 20, .inl (cZ, 300, .inl (tkH (a.2 0) (a.2 2) (a_many a)))), (q 21, .inl (cI, 300, .inl (a.2 4))), (q 3, .inr (0, [.ref (q 2), .ref (q 31), .int (nI (a.1 11)), .int (bT a), .int (tT a), .int (nI (a.1 15))])), (q 31, .inl (cI, 100, .inl (a.2 5)))] := hD.sub [0, 6, 7, 8, 1, 2, 3, 4, 5] (by decide) rfl
        have hP : va_P D vwCl [(q 0, .inr (3, [.ref (q 1), .ref (q 2), .ref (q 3), .int (nI (a.1 7))])), (q 1, .inr (1, [.ref (q 10), .ref (q 11), .int (nI ((a_drive a).1 4)), .int (nI ((a_drive a).1 0)), .int (nI ((a_drive a).1 1)), .int (nI ((a_drive a).1 2)), .int (nI ((a_drive a).1 3)), .int (nI ((a_drive a).1 5)), .int (nI ((a_drive a).1 6))])), (q 10, .inl (cI, 32, .inl ((a_drive a).2 0))), (q 11, .inl (cI, 32, .inl ((a_drive a).2 1))), (q 2, .inr (2, [.ref (q 20), .ref (q 21), .int (nI ((a_drive a).1 8)), .int (nI ((a_drive a).1 14) - 1), .int (nI ((a_drive a).1 13))])), (q 20, .inl (cZ, 300, .inl ((a_drive a).2 2))), (q 21, .inl (cI, 300, .inl ((a_drive a).2 4))), (q 3, .inr (0, [.ref (q 2), .ref (q 31), .int (nI (a.1 11)), .int (bT a), .int (tT a), .int (nI (a.1 15))])), (q 31, .inl (cI, 100, .inl (a.2 5)))] H := hP
        have hD : va_D A [(q 0, .inr (3, [.ref (q 1), .ref (q 2), .ref (q 3), .int (nI (a.1 7))])), (q 1, .inr (1, [.ref (q 10), .ref (q 11), .int (nI ((a_drive a).1 4)), .int (nI ((a_drive a).1 0)), .int (nI ((a_drive a).1 1)), .int (nI ((a_drive a).1 2)), .int (nI ((a_drive a).1 3)), .int (nI ((a_drive a).1 5)), .int (nI ((a_drive a).1 6))])), (q 10, .inl (cI, 32, .inl ((a_drive a).2 0))), (q 11, .inl (cI, 32, .inl ((a_drive a).2 1))), (q 2, .inr (2, [.ref (q 20), .ref (q 21), .int (nI ((a_drive a).1 8)), .int (nI ((a_drive a).1 14) - 1), .int (nI ((a_drive a).1 13))])), (q 20, .inl (cZ, 300, .inl ((a_drive a).2 2))), (q 21, .inl (cI, 300, .inl ((a_drive a).2 4))), (q 3, .inr (0, [.ref (q 2), .ref (q 31), .int (nI (a.1 11)), .int (bT a), .int (tT a), .int (nI (a.1 15))])), (q 31, .inl (cI, 100, .inl (a.2 5)))] := hD
        refine lv_aload_n hx hb dX3_passTick_48 rfl (lv_at hl 0 rfl) ?_
        refine va_get (D := D) (ci := 3) (v := .ref (q 2)) (C := RX3) (T := TX3) (N := 4) hx hb hts hinX3 hown hK hP 0 rfl rfl 1 (by decide) (hts _ (List.mem_of_getElem? (i := 3) rfl)) (fun _ h9 => h9) rfl dX3_passTick_49 ?_
        refine lv_aload_n hx hb dX3_passTick_52 rfl (lv_at hl 0 rfl) ?_
        refine va_get (D := D) (ci := 3) (v := .ref (q 3)) (C := RX3) (T := TX3) (N := 4) hx hb hts hinX3 hown hK hP 0 rfl rfl 2 (by decide) (hts _ (List.mem_of_getElem? (i := 4) rfl)) (fun _ h9 => h9) rfl dX3_passTick_53 ?_
        refine va_getN (D := D) (ci := 0) (v := .int (nI (a.1 11))) (C := RX0) (T := TX0) (N := 6) hx hb hts hinX0 hown hK hP 7 rfl rfl 2 (by decide) (va_Nw.use rfl hN.f132) (fun _ h9 => h9) rfl dX3_passTick_56 ?_
        refine k_callVv (n := 1) (wr := [(q 0, .inr (3, [.ref (q 1), .ref (q 2), .ref (q 3), .int (nI (a.1 7))])), (q 1, .inr (1, [.ref (q 10), .ref (q 11), .int (nI ((a_drive a).1 4)), .int (nI ((a_drive a).1 0)), .int (nI ((a_drive a).1 1)), .int (nI ((a_drive a).1 2)), .int (nI ((a_drive a).1 3)), .int (nI ((a_drive a).1 5)), .int (nI ((a_drive a).1 6))])), (q 10, .inl (cI, 32, .inl ((a_drive a).2 0))), (q 11, .inl (cI, 32, .inl ((a_drive a).2 1))), (q 3, .inr (0, [.ref (q 2), .ref (q 31), .int (nI (a.1 11)), .int (bT a), .int (tT a), .int (nI (a.1 15))])), (q 31, .inl (cI, 100, .inl (a.2 5)))]) (As := [.int (nI (a.1 11))]) (rest := []) hfix hN hK hP hD hS hA hl.1 (c_X2_askForMissing l D cI cZ q (a_drive a) (AI_drive hI)) gX3_passTick_X2_askForMissing rfl (by decide +kernel) rfl ⟨Nat.le_of_ble_eq_true rfl, Nat.le_of_ble_eq_true rfl⟩ [4, 5, 6] [0, 1, 2, 3, 7, 8] rfl rfl (by decide) (by decide) (by decide) 4 rfl rfl rfl (Nat.le_of_ble_eq_true rfl) ⟨Nat.zero_le _, Nat.zero_le _⟩ dX3_passTick_59 (fun u H locs hw_59 hP hD hS => ?_)
        have hP : va_P D vwCl [(q 0, .inr (3, [.ref (q 1), .ref (q 2), .ref (q 3), .int (nI (a.1 7))])), (q 1, .inr (1, [.ref (q 10), .ref (q 11), .int (nI ((a_drive a).1 4)), .int (nI ((a_drive a).1 0)), .int (nI ((a_drive a).1 1)), .int (nI ((a_drive a).1 2)), .int (nI ((a_drive a).1 3)), .int (nI ((a_drive a).1 5)), .int (nI ((a_drive a).1 6))])), (q 10, .inl (cI, 32, .inl ((a_drive a).2 0))), (q 11, .inl (cI, 32, .inl ((a_drive a).2 1))), (q 2, .inr (2, [.ref (q 20), .ref (q 21), .int (nI ((a_ask (a_drive a)).1 8)), .int (nI ((a_ask (a_drive a)).1 14) - 1), .int (nI ((a_ask (a_drive a)).1 13))])), (q 20, .inl (cZ, 300, .inl ((a_ask (a_drive a)).2 2))), (q 21, .inl (cI, 300, .inl ((a_ask (a_drive a)).2 4))), (q 3, .inr (0, [.ref (q 2), .ref (q 31), .int (nI (a.1 11)), .int (bT a), .int (tT a), .int (nI (a.1 15))])), (q 31, .inl (cI, 100, .inl (a.2 5)))] H := hP.sub [0, 1, 2, 3, 6, 7, 8, 4, 5] rfl
        have hD : va_D A [(q 0, .inr (3, [.ref (q 1), .ref (q 2), .ref (q 3), .int (nI (a.1 7))])), (q 1, .inr (1, [.ref (q 10), .ref (q 11), .int (nI ((a_drive a).1 4)), .int (nI ((a_drive a).1 0)), .int (nI ((a_drive a).1 1)), .int (nI ((a_drive a).1 2)), .int (nI ((a_drive a).1 3)), .int (nI ((a_drive a).1 5)), .int (nI ((a_drive a).1 6))])), (q 10, .inl (cI, 32, .inl ((a_drive a).2 0))), (q 11, .inl (cI, 32, .inl ((a_drive a).2 1))), (q 2, .inr (2, [.ref (q 20), .ref (q 21), .int (nI ((a_ask (a_drive a)).1 8)), .int (nI ((a_ask (a_drive a)).1 14) - 1), .int (nI ((a_ask (a_drive a)).1 13))])), (q 20, .inl (cZ, 300, .inl ((a_ask (a_drive a)).2 2))), (q 21, .inl (cI, 300, .inl ((a_ask (a_drive a)).2 4))), (q 3, .inr (0, [.ref (q 2), .ref (q 31), .int (nI (a.1 11)), .int (bT a), .int (tT a), .int (nI (a.1 15))])), (q 31, .inl (cI, 100, .inl (a.2 5)))] := hD.sub [0, 1, 2, 3, 6, 7, 8, 4, 5] (by decide) rfl
        refine lv_aload_n hx hb dX3_passTick_62 rfl (lv_at hl 0 rfl) ?_
        refine va_get (D := D) (ci := 3) (v := .ref (q 3)) (C := RX3) (T := TX3) (N := 4) hx hb hts hinX3 hown hK hP 0 rfl rfl 2 (by decide) (hts _ (List.mem_of_getElem? (i := 4) rfl)) (fun _ h9 => h9) rfl dX3_passTick_63 ?_
        refine lv_aload_n hx hb dX3_passTick_66 rfl (lv_at hl 0 rfl) ?_
        refine va_get (D := D) (ci := 3) (v := .int (nI (a.1 7))) (C := RX3) (T := TX3) (N := 4) hx hb hts hinX3 hown hK hP 0 rfl rfl 3 (by decide) (hts _ (List.mem_of_getElem? (i := 2) rfl)) (fun _ h9 => h9) rfl dX3_passTick_67 ?_
        refine k_callVv (n := 1) (wr := [(q 0, .inr (3, [.ref (q 1), .ref (q 2), .ref (q 3), .int (nI (a.1 7))])), (q 1, .inr (1, [.ref (q 10), .ref (q 11), .int (nI ((a_drive a).1 4)), .int (nI ((a_drive a).1 0)), .int (nI ((a_drive a).1 1)), .int (nI ((a_drive a).1 2)), .int (nI ((a_drive a).1 3)), .int (nI ((a_drive a).1 5)), .int (nI ((a_drive a).1 6))])), (q 10, .inl (cI, 32, .inl ((a_drive a).2 0))), (q 11, .inl (cI, 32, .inl ((a_drive a).2 1)))]) (As := [.int (nI (a.1 7))]) (rest := []) hfix hN hK hP hD hS hA hl.1 (c_X0_play l D cI cZ q (a_ask (a_drive a)) (AI_ask (AI_drive hI))) gX3_passTick_X0_play rfl (by decide +kernel) rfl ⟨Nat.le_of_ble_eq_true rfl, Nat.le_of_ble_eq_true rfl⟩ [7, 8, 4, 5, 6] [0, 1, 2, 3] rfl rfl (by decide) (by decide) (by decide) 7 rfl rfl rfl (Nat.le_of_ble_eq_true rfl) ⟨Nat.zero_le _, Nat.zero_le _⟩ dX3_passTick_70 (fun u H locs hw_70 hP hD hS => ?_)
        have hP : va_P D vwCl [(q 0, .inr (3, [.ref (q 1), .ref (q 2), .ref (q 3), .int (nI (a.1 7))])), (q 1, .inr (1, [.ref (q 10), .ref (q 11), .int (nI ((a_drive a).1 4)), .int (nI ((a_drive a).1 0)), .int (nI ((a_drive a).1 1)), .int (nI ((a_drive a).1 2)), .int (nI ((a_drive a).1 3)), .int (nI ((a_drive a).1 5)), .int (nI ((a_drive a).1 6))])), (q 10, .inl (cI, 32, .inl ((a_drive a).2 0))), (q 11, .inl (cI, 32, .inl ((a_drive a).2 1))), (q 2, .inr (2, [.ref (q 20), .ref (q 21), .int (nI ((a_play (a_ask (a_drive a))).1 8)), .int (nI ((a_play (a_ask (a_drive a))).1 14) - 1), .int (nI ((a_play (a_ask (a_drive a))).1 13))])), (q 20, .inl (cZ, 300, .inl ((a_play (a_ask (a_drive a))).2 2))), (q 21, .inl (cI, 300, .inl ((a_play (a_ask (a_drive a))).2 4))), (q 3, .inr (0, [.ref (q 2), .ref (q 31), .int (nI ((a_play (a_ask (a_drive a))).1 11)), .int (bT (a_play (a_ask (a_drive a)))), .int (tT (a_play (a_ask (a_drive a)))), .int (nI ((a_play (a_ask (a_drive a))).1 15))])), (q 31, .inl (cI, 100, .inl ((a_play (a_ask (a_drive a))).2 5)))] H := hP.sub [0, 1, 2, 3, 6, 7, 8, 4, 5] rfl
        have hD : va_D A [(q 0, .inr (3, [.ref (q 1), .ref (q 2), .ref (q 3), .int (nI (a.1 7))])), (q 1, .inr (1, [.ref (q 10), .ref (q 11), .int (nI ((a_drive a).1 4)), .int (nI ((a_drive a).1 0)), .int (nI ((a_drive a).1 1)), .int (nI ((a_drive a).1 2)), .int (nI ((a_drive a).1 3)), .int (nI ((a_drive a).1 5)), .int (nI ((a_drive a).1 6))])), (q 10, .inl (cI, 32, .inl ((a_drive a).2 0))), (q 11, .inl (cI, 32, .inl ((a_drive a).2 1))), (q 2, .inr (2, [.ref (q 20), .ref (q 21), .int (nI ((a_play (a_ask (a_drive a))).1 8)), .int (nI ((a_play (a_ask (a_drive a))).1 14) - 1), .int (nI ((a_play (a_ask (a_drive a))).1 13))])), (q 20, .inl (cZ, 300, .inl ((a_play (a_ask (a_drive a))).2 2))), (q 21, .inl (cI, 300, .inl ((a_play (a_ask (a_drive a))).2 4))), (q 3, .inr (0, [.ref (q 2), .ref (q 31), .int (nI ((a_play (a_ask (a_drive a))).1 11)), .int (bT (a_play (a_ask (a_drive a)))), .int (tT (a_play (a_ask (a_drive a)))), .int (nI ((a_play (a_ask (a_drive a))).1 15))])), (q 31, .inl (cI, 100, .inl ((a_play (a_ask (a_drive a))).2 5)))] := hD.sub [0, 1, 2, 3, 6, 7, 8, 4, 5] (by decide) rfl
        refine lv_aload_n hx hb dX3_passTick_73 rfl (lv_at hl 0 rfl) ?_
        refine lv_dup hx hb dX3_passTick_74 rfl ?_
        refine va_get (D := D) (ci := 3) (v := .int (nI (a.1 7))) (C := RX3) (T := TX3) (N := 4) hx hb hts hinX3 hown hK hP 0 rfl rfl 3 (by decide) (hts _ (List.mem_of_getElem? (i := 2) rfl)) (fun _ h9 => h9) rfl dX3_passTick_75 ?_
        refine lv_iconst (v := nI 1) hx hb dX3_passTick_78 (by decide) ?_
        refine k_iadd hx hb dX3_passTick_79 ?_
        refine va_put (D := D) (ci := 3) (v := .int (nI ((a.1 7) + 1))) (ty := .int) (C := RX3) (T := TX3) (N := 4) hx hb hts hinX3 tyX3 tyX3_ok nmX3 hown hK hP hD hS 0 rfl rfl 3 (by decide) (hts _ (List.mem_of_getElem? (i := 2) rfl)) (fun _ h9 => h9) rfl (by decide +kernel) rfl rfl (Nat.le_of_ble_eq_true rfl) dX3_passTick_80 (fun H locs hP hD hS => ?_)
        have hP : va_P D vwCl [(q 0, .inr (3, [.ref (q 1), .ref (q 2), .ref (q 3), .int (nI ((a.1 7) + 1))])), (q 1, .inr (1, [.ref (q 10), .ref (q 11), .int (nI ((a_drive a).1 4)), .int (nI ((a_drive a).1 0)), .int (nI ((a_drive a).1 1)), .int (nI ((a_drive a).1 2)), .int (nI ((a_drive a).1 3)), .int (nI ((a_drive a).1 5)), .int (nI ((a_drive a).1 6))])), (q 10, .inl (cI, 32, .inl ((a_drive a).2 0))), (q 11, .inl (cI, 32, .inl ((a_drive a).2 1))), (q 2, .inr (2, [.ref (q 20), .ref (q 21), .int (nI ((a_play (a_ask (a_drive a))).1 8)), .int (nI ((a_play (a_ask (a_drive a))).1 14) - 1), .int (nI ((a_play (a_ask (a_drive a))).1 13))])), (q 20, .inl (cZ, 300, .inl ((a_play (a_ask (a_drive a))).2 2))), (q 21, .inl (cI, 300, .inl ((a_play (a_ask (a_drive a))).2 4))), (q 3, .inr (0, [.ref (q 2), .ref (q 31), .int (nI ((a_play (a_ask (a_drive a))).1 11)), .int (bT (a_play (a_ask (a_drive a)))), .int (tT (a_play (a_ask (a_drive a)))), .int (nI ((a_play (a_ask (a_drive a))).1 15))])), (q 31, .inl (cI, 100, .inl ((a_play (a_ask (a_drive a))).2 5)))] H := hP
        have hD : va_D A [(q 0, .inr (3, [.ref (q 1), .ref (q 2), .ref (q 3), .int (nI ((a.1 7) + 1))])), (q 1, .inr (1, [.ref (q 10), .ref (q 11), .int (nI ((a_drive a).1 4)), .int (nI ((a_drive a).1 0)), .int (nI ((a_drive a).1 1)), .int (nI ((a_drive a).1 2)), .int (nI ((a_drive a).1 3)), .int (nI ((a_drive a).1 5)), .int (nI ((a_drive a).1 6))])), (q 10, .inl (cI, 32, .inl ((a_drive a).2 0))), (q 11, .inl (cI, 32, .inl ((a_drive a).2 1))), (q 2, .inr (2, [.ref (q 20), .ref (q 21), .int (nI ((a_play (a_ask (a_drive a))).1 8)), .int (nI ((a_play (a_ask (a_drive a))).1 14) - 1), .int (nI ((a_play (a_ask (a_drive a))).1 13))])), (q 20, .inl (cZ, 300, .inl ((a_play (a_ask (a_drive a))).2 2))), (q 21, .inl (cI, 300, .inl ((a_play (a_ask (a_drive a))).2 4))), (q 3, .inr (0, [.ref (q 2), .ref (q 31), .int (nI ((a_play (a_ask (a_drive a))).1 11)), .int (bT (a_play (a_ask (a_drive a)))), .int (tT (a_play (a_ask (a_drive a)))), .int (nI ((a_play (a_ask (a_drive a))).1 15))])), (q 31, .inl (cI, 100, .inl ((a_play (a_ask (a_drive a))).2 5)))] := hD
        have hP : va_P D vwCl (PWa q (a_pass a) ++ (RWa cI q (a_play (a_ask (a_drive a))) ++ (SWa cI cZ q (a_play (a_ask (a_drive a))) ++ FWa cI q (a_play (a_ask (a_drive a)))))) H := by rw [RW_play]; exact hP
        have hD : va_D A (PWa q (a_pass a) ++ (RWa cI q (a_play (a_ask (a_drive a))) ++ (SWa cI cZ q (a_play (a_ask (a_drive a))) ++ FWa cI q (a_play (a_ask (a_drive a)))))) := by rw [RW_play]; exact hD
        exact k_vret hx hb hr hlk () trivial hP hD hS dX3_passTick_83
      · -- c_16 not taken
        refine lv_aload_n hx hb dX3_passTick_19 rfl (lv_at hl 0 rfl) ?_
        refine va_get (D := D) (ci := 3) (v := .ref (q 2)) (C := RX3) (T := TX3) (N := 4) hx hb hts hinX3 hown hK hP 0 rfl rfl 1 (by decide) (hts _ (List.mem_of_getElem? (i := 3) rfl)) (fun _ h9 => h9) rfl dX3_passTick_20 ?_
        refine lv_aload_n hx hb dX3_passTick_23 rfl (lv_at hl 0 rfl) ?_
        refine va_get (D := D) (ci := 3) (v := .ref (q 1)) (C := RX3) (T := TX3) (N := 4) hx hb hts hinX3 hown hK hP 0 rfl rfl 0 (by decide) (hts _ (List.mem_of_getElem? (i := 1) rfl)) (fun _ h9 => h9) rfl dX3_passTick_24 ?_
        refine lv_iload_n hx hb dX3_passTick_27 rfl (lv_at hl 2 rfl) ?_
        refine k_callVi (n := 1) (wr := [(q 0, .inr (3, [.ref (q 1), .ref (q 2), .ref (q 3), .int (nI (a.1 7))])), (q 2, .inr (2, [.ref (q 20), .ref (q 21), .int (nI (a.1 8)), .int (nI (tkP (a.2 0) (a.1 14) k) - 1), .int (nI (a.1 13))])), (q 20, .inl (cZ, 300, .inl (tkH (a.2 0) (a.2 2) k))), (q 21, .inl (cI, 300, .inl (a.2 4))), (q 3, .inr (0, [.ref (q 2), .ref (q 31), .int (nI (a.1 11)), .int (bT a), .int (tT a), .int (nI (a.1 15))])), (q 31, .inl (cI, 100, .inl (a.2 5)))]) (As := [.int (nI k)]) (rest := [.ref (q 2)]) hfix hN hK hP hD hS hA hl.1 (c_X1_packetAt l D cI cZ q (sN a 5 (a_polN a)) (show a.1 4 ≤ 32 from i4) k (show k < a.1 4 by omega) (show vp_in (a.2 0 k) 300 from iQ k (by omega))) gX3_passTick_X1_packetAt rfl (by decide +kernel) rfl ⟨Nat.le_of_ble_eq_true rfl, Nat.le_of_ble_eq_true rfl⟩ [1, 2, 3] [0, 4, 5, 6, 7, 8] rfl rfl (by decide) (by decide) (by decide) 1 rfl rfl rfl (Nat.le_of_ble_eq_true rfl) ⟨Nat.zero_le _, Nat.zero_le _⟩ dX3_passTick_28 (fun r_28 u H locs hw_28 hP hD hS => ?_)
        have hP : va_P D vwCl [(q 0, .inr (3, [.ref (q 1), .ref (q 2), .ref (q 3), .int (nI (a.1 7))])), (q 1, .inr (1, [.ref (q 10), .ref (q 11), .int (nI (a.1 4)), .int (nI (a.1 0)), .int (nI (a.1 1)), .int (nI (a.1 2)), .int (nI (a.1 3)), .int (nI (a_polN a)), .int (nI (a.1 6))])), (q 10, .inl (cI, 32, .inl (a.2 0))), (q 11, .inl (cI, 32, .inl (a.2 1))), (q 2, .inr (2, [.ref (q 20), .ref (q 21), .int (nI (a.1 8)), .int (nI (tkP (a.2 0) (a.1 14) k) - 1), .int (nI (a.1 13))])), (q 20, .inl (cZ, 300, .inl (tkH (a.2 0) (a.2 2) k))), (q 21, .inl (cI, 300, .inl (a.2 4))), (q 3, .inr (0, [.ref (q 2), .ref (q 31), .int (nI (a.1 11)), .int (bT a), .int (tT a), .int (nI (a.1 15))])), (q 31, .inl (cI, 100, .inl (a.2 5)))] H := hP.sub [0, 6, 7, 8, 1, 2, 3, 4, 5] rfl
        have hD : va_D A [(q 0, .inr (3, [.ref (q 1), .ref (q 2), .ref (q 3), .int (nI (a.1 7))])), (q 1, .inr (1, [.ref (q 10), .ref (q 11), .int (nI (a.1 4)), .int (nI (a.1 0)), .int (nI (a.1 1)), .int (nI (a.1 2)), .int (nI (a.1 3)), .int (nI (a_polN a)), .int (nI (a.1 6))])), (q 10, .inl (cI, 32, .inl (a.2 0))), (q 11, .inl (cI, 32, .inl (a.2 1))), (q 2, .inr (2, [.ref (q 20), .ref (q 21), .int (nI (a.1 8)), .int (nI (tkP (a.2 0) (a.1 14) k) - 1), .int (nI (a.1 13))])), (q 20, .inl (cZ, 300, .inl (tkH (a.2 0) (a.2 2) k))), (q 21, .inl (cI, 300, .inl (a.2 4))), (q 3, .inr (0, [.ref (q 2), .ref (q 31), .int (nI (a.1 11)), .int (bT a), .int (tT a), .int (nI (a.1 15))])), (q 31, .inl (cI, 100, .inl (a.2 5)))] := hD.sub [0, 6, 7, 8, 1, 2, 3, 4, 5] (by decide) rfl
        obtain rfl : r_28 = nI (((sN a 5 (a_polN a)).2 0 k).toNatClampNeg) := hw_28
        refine k_callVv (n := 1) (wr := [(q 0, .inr (3, [.ref (q 1), .ref (q 2), .ref (q 3), .int (nI (a.1 7))])), (q 1, .inr (1, [.ref (q 10), .ref (q 11), .int (nI (a.1 4)), .int (nI (a.1 0)), .int (nI (a.1 1)), .int (nI (a.1 2)), .int (nI (a.1 3)), .int (nI (a_polN a)), .int (nI (a.1 6))])), (q 10, .inl (cI, 32, .inl (a.2 0))), (q 11, .inl (cI, 32, .inl (a.2 1))), (q 3, .inr (0, [.ref (q 2), .ref (q 31), .int (nI (a.1 11)), .int (bT a), .int (tT a), .int (nI (a.1 15))])), (q 31, .inl (cI, 100, .inl (a.2 5)))]) (As := [.int (nI (((sN a 5 (a_polN a)).2 0 k).toNatClampNeg))]) (rest := []) hfix hN hK hP hD hS hA hl.1 (c_X2_add l D cI cZ q (a_tk k a) (show tkP (a.2 0) (a.1 14) k ≤ 300 from tkP_le i14 k (fun j hj => iQ j (by omega))) (((sN a 5 (a_polN a)).2 0 k).toNatClampNeg) (show (a.2 0 k).toNatClampNeg < 300 from vp_lt (iQ k (by omega)) (by decide))) gX3_passTick_X2_add rfl (by decide +kernel) rfl ⟨Nat.le_of_ble_eq_true rfl, Nat.le_of_ble_eq_true rfl⟩ [4, 5, 6] [0, 1, 2, 3, 7, 8] rfl rfl (by decide) (by decide) (by decide) 4 rfl rfl rfl (Nat.le_of_ble_eq_true rfl) ⟨Nat.zero_le _, Nat.zero_le _⟩ dX3_passTick_31 (fun u H locs hw_31 hP hD hS => ?_)
        have hP : va_P D vwCl [(q 0, .inr (3, [.ref (q 1), .ref (q 2), .ref (q 3), .int (nI (a.1 7))])), (q 1, .inr (1, [.ref (q 10), .ref (q 11), .int (nI (a.1 4)), .int (nI (a.1 0)), .int (nI (a.1 1)), .int (nI (a.1 2)), .int (nI (a.1 3)), .int (nI (a_polN a)), .int (nI (a.1 6))])), (q 10, .inl (cI, 32, .inl (a.2 0))), (q 11, .inl (cI, 32, .inl (a.2 1))), (q 2, .inr (2, [.ref (q 20), .ref (q 21), .int (nI ((sN (sA (a_tk k a) 2 (upd ((a_tk k a).2 2) (((sN a 5 (a_polN a)).2 0 k).toNatClampNeg) (nI 1))) 14 (max ((a_tk k a).1 14) ((((sN a 5 (a_polN a)).2 0 k).toNatClampNeg) + 1))).1 8)), .int (nI ((sN (sA (a_tk k a) 2 (upd ((a_tk k a).2 2) (((sN a 5 (a_polN a)).2 0 k).toNatClampNeg) (nI 1))) 14 (max ((a_tk k a).1 14) ((((sN a 5 (a_polN a)).2 0 k).toNatClampNeg) + 1))).1 14) - 1), .int (nI ((sN (sA (a_tk k a) 2 (upd ((a_tk k a).2 2) (((sN a 5 (a_polN a)).2 0 k).toNatClampNeg) (nI 1))) 14 (max ((a_tk k a).1 14) ((((sN a 5 (a_polN a)).2 0 k).toNatClampNeg) + 1))).1 13))])), (q 20, .inl (cZ, 300, .inl ((sN (sA (a_tk k a) 2 (upd ((a_tk k a).2 2) (((sN a 5 (a_polN a)).2 0 k).toNatClampNeg) (nI 1))) 14 (max ((a_tk k a).1 14) ((((sN a 5 (a_polN a)).2 0 k).toNatClampNeg) + 1))).2 2))), (q 21, .inl (cI, 300, .inl ((sN (sA (a_tk k a) 2 (upd ((a_tk k a).2 2) (((sN a 5 (a_polN a)).2 0 k).toNatClampNeg) (nI 1))) 14 (max ((a_tk k a).1 14) ((((sN a 5 (a_polN a)).2 0 k).toNatClampNeg) + 1))).2 4))), (q 3, .inr (0, [.ref (q 2), .ref (q 31), .int (nI (a.1 11)), .int (bT a), .int (tT a), .int (nI (a.1 15))])), (q 31, .inl (cI, 100, .inl (a.2 5)))] H := hP.sub [0, 1, 2, 3, 6, 7, 8, 4, 5] rfl
        have hD : va_D A [(q 0, .inr (3, [.ref (q 1), .ref (q 2), .ref (q 3), .int (nI (a.1 7))])), (q 1, .inr (1, [.ref (q 10), .ref (q 11), .int (nI (a.1 4)), .int (nI (a.1 0)), .int (nI (a.1 1)), .int (nI (a.1 2)), .int (nI (a.1 3)), .int (nI (a_polN a)), .int (nI (a.1 6))])), (q 10, .inl (cI, 32, .inl (a.2 0))), (q 11, .inl (cI, 32, .inl (a.2 1))), (q 2, .inr (2, [.ref (q 20), .ref (q 21), .int (nI ((sN (sA (a_tk k a) 2 (upd ((a_tk k a).2 2) (((sN a 5 (a_polN a)).2 0 k).toNatClampNeg) (nI 1))) 14 (max ((a_tk k a).1 14) ((((sN a 5 (a_polN a)).2 0 k).toNatClampNeg) + 1))).1 8)), .int (nI ((sN (sA (a_tk k a) 2 (upd ((a_tk k a).2 2) (((sN a 5 (a_polN a)).2 0 k).toNatClampNeg) (nI 1))) 14 (max ((a_tk k a).1 14) ((((sN a 5 (a_polN a)).2 0 k).toNatClampNeg) + 1))).1 14) - 1), .int (nI ((sN (sA (a_tk k a) 2 (upd ((a_tk k a).2 2) (((sN a 5 (a_polN a)).2 0 k).toNatClampNeg) (nI 1))) 14 (max ((a_tk k a).1 14) ((((sN a 5 (a_polN a)).2 0 k).toNatClampNeg) + 1))).1 13))])), (q 20, .inl (cZ, 300, .inl ((sN (sA (a_tk k a) 2 (upd ((a_tk k a).2 2) (((sN a 5 (a_polN a)).2 0 k).toNatClampNeg) (nI 1))) 14 (max ((a_tk k a).1 14) ((((sN a 5 (a_polN a)).2 0 k).toNatClampNeg) + 1))).2 2))), (q 21, .inl (cI, 300, .inl ((sN (sA (a_tk k a) 2 (upd ((a_tk k a).2 2) (((sN a 5 (a_polN a)).2 0 k).toNatClampNeg) (nI 1))) 14 (max ((a_tk k a).1 14) ((((sN a 5 (a_polN a)).2 0 k).toNatClampNeg) + 1))).2 4))), (q 3, .inr (0, [.ref (q 2), .ref (q 31), .int (nI (a.1 11)), .int (bT a), .int (tT a), .int (nI (a.1 15))])), (q 31, .inl (cI, 100, .inl (a.2 5)))] := hD.sub [0, 1, 2, 3, 6, 7, 8, 4, 5] (by decide) rfl
        refine lv_iinc (v := nI (k + 1)) (lv' := [(2, .int (nI (k + 1))), (0, .ref (q 0)), (1, .int (nI (a_many a)))]) hx hb dX3_passTick_34 hl (k := 2) rfl (nI_add k 1) (by decide) rfl (fun ls hl => ?_)
        refine lv_goto (tgt := 14) hx hb dX3_passTick_37 (by decide) ?_
        exact ih9 (k + 1) (by omega) (by omega) H locs ls hP hD hS (lv_sub hl [1, 2, 0] rfl)
  refine lv_aload_n hx hb dX3_passTick_0 rfl (lv_at hl 0 rfl) ?_
  refine va_get (D := D) (ci := 3) (v := .ref (q 1)) (C := RX3) (T := TX3) (N := 4) hx hb hts hinX3 hown hK hP 0 rfl rfl 0 (by decide) (hts _ (List.mem_of_getElem? (i := 1) rfl)) (fun _ h9 => h9) rfl dX3_passTick_1 ?_
  refine lv_aload_n hx hb dX3_passTick_4 rfl (lv_at hl 0 rfl) ?_
  refine va_get (D := D) (ci := 3) (v := .int (nI (a.1 7))) (C := RX3) (T := TX3) (N := 4) hx hb hts hinX3 hown hK hP 0 rfl rfl 3 (by decide) (hts _ (List.mem_of_getElem? (i := 2) rfl)) (fun _ h9 => h9) rfl dX3_passTick_5 ?_
  refine k_callVi (n := 1) (wr := [(q 0, .inr (3, [.ref (q 1), .ref (q 2), .ref (q 3), .int (nI (a.1 7))])), (q 2, .inr (2, [.ref (q 20), .ref (q 21), .int (nI (a.1 8)), .int (nI (a.1 14) - 1), .int (nI (a.1 13))])), (q 20, .inl (cZ, 300, .inl (a.2 2))), (q 21, .inl (cI, 300, .inl (a.2 4))), (q 3, .inr (0, [.ref (q 2), .ref (q 31), .int (nI (a.1 11)), .int (bT a), .int (tT a), .int (nI (a.1 15))])), (q 31, .inl (cI, 100, .inl (a.2 5)))]) (As := [.int (nI (a.1 7))]) (rest := []) hfix hN hK hP hD hS hA hl.1 (c_X1_chooseMany l D cI cZ q a hI) gX3_passTick_X1_chooseMany rfl (by decide +kernel) rfl ⟨Nat.le_of_ble_eq_true rfl, Nat.le_of_ble_eq_true rfl⟩ [1, 2, 3] [0, 4, 5, 6, 7, 8] rfl rfl (by decide) (by decide) (by decide) 1 rfl rfl rfl (Nat.le_of_ble_eq_true rfl) ⟨Nat.zero_le _, Nat.zero_le _⟩ dX3_passTick_8 (fun r_8 u H locs hw_8 hP hD hS => ?_)
  have hP : va_P D vwCl [(q 0, .inr (3, [.ref (q 1), .ref (q 2), .ref (q 3), .int (nI (a.1 7))])), (q 1, .inr (1, [.ref (q 10), .ref (q 11), .int (nI ((sN a 5 (a_polN a)).1 4)), .int (nI ((sN a 5 (a_polN a)).1 0)), .int (nI ((sN a 5 (a_polN a)).1 1)), .int (nI ((sN a 5 (a_polN a)).1 2)), .int (nI ((sN a 5 (a_polN a)).1 3)), .int (nI ((sN a 5 (a_polN a)).1 5)), .int (nI ((sN a 5 (a_polN a)).1 6))])), (q 10, .inl (cI, 32, .inl ((sN a 5 (a_polN a)).2 0))), (q 11, .inl (cI, 32, .inl ((sN a 5 (a_polN a)).2 1))), (q 2, .inr (2, [.ref (q 20), .ref (q 21), .int (nI (a.1 8)), .int (nI (a.1 14) - 1), .int (nI (a.1 13))])), (q 20, .inl (cZ, 300, .inl (a.2 2))), (q 21, .inl (cI, 300, .inl (a.2 4))), (q 3, .inr (0, [.ref (q 2), .ref (q 31), .int (nI (a.1 11)), .int (bT a), .int (tT a), .int (nI (a.1 15))])), (q 31, .inl (cI, 100, .inl (a.2 5)))] H := hP.sub [0, 6, 7, 8, 1, 2, 3, 4, 5] rfl
  have hD : va_D A [(q 0, .inr (3, [.ref (q 1), .ref (q 2), .ref (q 3), .int (nI (a.1 7))])), (q 1, .inr (1, [.ref (q 10), .ref (q 11), .int (nI ((sN a 5 (a_polN a)).1 4)), .int (nI ((sN a 5 (a_polN a)).1 0)), .int (nI ((sN a 5 (a_polN a)).1 1)), .int (nI ((sN a 5 (a_polN a)).1 2)), .int (nI ((sN a 5 (a_polN a)).1 3)), .int (nI ((sN a 5 (a_polN a)).1 5)), .int (nI ((sN a 5 (a_polN a)).1 6))])), (q 10, .inl (cI, 32, .inl ((sN a 5 (a_polN a)).2 0))), (q 11, .inl (cI, 32, .inl ((sN a 5 (a_polN a)).2 1))), (q 2, .inr (2, [.ref (q 20), .ref (q 21), .int (nI (a.1 8)), .int (nI (a.1 14) - 1), .int (nI (a.1 13))])), (q 20, .inl (cZ, 300, .inl (a.2 2))), (q 21, .inl (cI, 300, .inl (a.2 4))), (q 3, .inr (0, [.ref (q 2), .ref (q 31), .int (nI (a.1 11)), .int (bT a), .int (tT a), .int (nI (a.1 15))])), (q 31, .inl (cI, 100, .inl (a.2 5)))] := hD.sub [0, 6, 7, 8, 1, 2, 3, 4, 5] (by decide) rfl
  obtain rfl : r_8 = nI (a_many a) := hw_8
  refine lv_istore_n (lv' := [(1, .int (nI (a_many a))), (0, .ref (q 0))]) hx hb dX3_passTick_11 rfl hl (by decide) rfl (fun ls hl => ?_)
  refine lv_iconst (v := nI 0) hx hb dX3_passTick_12 (by decide) ?_
  refine lv_istore_n (lv' := [(2, .int (nI 0)), (1, .int (nI (a_many a))), (0, .ref (q 0))]) hx hb dX3_passTick_13 rfl hl (by decide) rfl (fun ls hl => ?_)
  exact at14 _ 0 (Nat.lt_succ_self _) (Nat.zero_le _) H locs ls hP hD hS (lv_sub hl [2, 1, 0] rfl)
end
section
/-! methods that throw, and their callers -/
abbrev IAE : String := "java/lang/IllegalArgumentException"
abbrev ISE : String := "java/lang/IllegalStateException"
abbrev IOE : String := "java/lang/IndexOutOfBoundsException"
abbrev EXN : List String := ["java/lang/RuntimeException", "java/lang/Exception"]
def NCd (U : State) : Prop := va_Nw (.declares (Bundle.initS "java/lang/RuntimeException")) U ∧ va_Nw (.declares (Bundle.initS "java/lang/Exception")) U ∧ va_Nw (.declares (Bundle.initS Bundle.tN)) U
def NC (U : State) : Prop := (va_Nw (.castable IAE IAE) U ∧ va_Nw (.castable ISE ISE) U ∧ va_Nw (.castable IOE IOE) U ∧ va_Nc IAE IOE U ∧ va_Nc ISE IAE U) ∧ NCd U
theorem NC.warm {s U : State} (hW : s.WarmedH U.vm) (h : NC s) : NC U := ⟨⟨va_Nw.warmC hW h.1.1, va_Nw.warmC hW h.1.2.1, va_Nw.warmC hW h.1.2.2.1, va_Nc.moved hW.alike h.1.2.2.2.1, va_Nc.moved hW.alike h.1.2.2.2.2⟩, va_Nw.warmD hW h.2.1, va_Nw.warmD hW h.2.2.1, va_Nw.warmD hW h.2.2.2⟩
theorem NC.same {s U : State} (hv : U.vm = s.vm) (h : NC s) : NC U := ⟨⟨va_Nw.same rfl hv.symm h.1.1, va_Nw.same rfl hv.symm h.1.2.1, va_Nw.same rfl hv.symm h.1.2.2.1, va_Nc.moved (by rw [hv]; exact Vm.Alike.refl _) h.1.2.2.2.1, va_Nc.moved (by rw [hv]; exact Vm.Alike.refl _) h.1.2.2.2.2⟩, va_Nw.same rfl hv.symm h.2.1, va_Nw.same rfl hv.symm h.2.2.1, va_Nw.same rfl hv.symm h.2.2.2⟩
def ZQ (A : Nat → Prop) (U : State) (H : Heap) : Prop := vx_Zq Bundle.tN "UNASSIGNED_STACK" Bundle.steD A U H ∧ vx_Zq Bundle.tN "SUPPRESSED_SENTINEL" Bundle.listD A U H
theorem ZQ.moved {A : Nat → Prop} {u U : State} {H : Heap} (hvm : u.vm.Alike U.vm) (h : ZQ A u H) : ZQ A U H := ⟨h.1.moved hvm, h.2.moved hvm⟩
theorem ZQ.kept {A : Nat → Prop} {U : State} {H H1 : Heap} (h : ZQ A U H) (hq : ∀ a : Nat, a < H.size → ¬ A a → H1[a]? = H[a]?) : ZQ A U H1 := ⟨h.1.kept hq, h.2.kept hq⟩
theorem ZQ.narrow {A B : Nat → Prop} {U : State} {H : Heap} (h : ZQ A U H) (hAB : ∀ q, B q → A q) : ZQ B U H := ⟨h.1.narrow hAB, h.2.narrow hAB⟩
def xPre (D : va_G) (tys : List (ClassId × FieldType)) (ws : va_W) (sz : Nat) (U : State) : Prop := kPre D tys ws sz U ∧ NC U ∧ ZQ (va_A ws sz) U U.heap
theorem xblind {av : List Value} {D : va_G} {tys : List (ClassId × FieldType)} {ws : va_W} {sz : Nat} : FrameBlind (va_Pc av (xPre D tys ws sz)) := by
  intro a U g mk q
  obtain ⟨q0, qk, qc, qz⟩ := q
  exact ⟨q0, (kblind (av := av) a U g mk ⟨q0, qk⟩).2, NC.same (s := U) (U := U.calling g mk a) rfl qc, ZQ.moved (u := U) (U := U.calling g mk a) (Vm.Alike.refl U.vm) qz⟩
def xB (D : va_G) (A : Nat → Prop) (xe : String → Prop) (ws : va_W) : String → Unit → State → Prop := fun E _ t => xe E ∧ va_P D vwCl ws t.heap ∧ va_D A ws
def kXi (l : Launch) (y : MethodName) (w : List Cond) (fr lo : Nat) (D : va_G) (tys : List (ClassId × FieldType)) (av : List Value) (ws : va_W) {S : Type} (post : Int32 → S → Prop) (wf : S → va_W) (xe : String → Prop) : Prop :=
  ∀ sz : Nat, vx_Met l y w ({ frames := fr, cells := 1, slots := 6, locals := lo } : Room) (va_Pc av (xPre D tys ws sz)) (va_Qi post (kB D (va_A ws sz) wf) (va_A ws sz)) (vx_X (fun _ : Unit => True) (xB D (va_A ws sz) xe ws) (va_A ws sz)) 1 6 (va_A ws sz)
def kXv (l : Launch) (y : MethodName) (w : List Cond) (fr lo : Nat) (D : va_G) (tys : List (ClassId × FieldType)) (av : List Value) (ws : va_W) {S : Type} (post : S → Prop) (wf : S → va_W) (xe : String → Prop) : Prop :=
  ∀ sz : Nat, vx_Met l y w ({ frames := fr, cells := 1, slots := 6, locals := lo } : Room) (va_Pc av (xPre D tys ws sz)) (va_Qv post (kB D (va_A ws sz) wf) (va_A ws sz)) (vx_X (fun _ : Unit => True) (xB D (va_A ws sz) xe ws) (va_A ws sz)) 1 6 (va_A ws sz)
theorem k_inx {l : Launch} {y : MethodName} {w w' : List Cond} {cc : ByteArray} {maxL : Nat} {ret : Option FieldType} {rm : Room} {D : va_G} {tys : List (ClassId × FieldType)} {av : List Value} {ws : va_W} {sz mc ms : Nat} {Qc : (Nat → Prop) → Array Value → State → Outcome → State → Prop} {XC : (Nat → Prop) → String → State → State → Prop}
    (hy : plainName y.cls = true) (hw : w = Cond.code y cc maxL ret :: w') (hn : (lg_sl av).length ≤ maxL)
    (body : ∀ (p : Program) (e : Env) (s : State) (m : MethodId) (below : List Frame) (meth : Method) (c : Code) (A : Nat → Prop) (ls : Array Slot),
      CallFix p m c cc maxL s av.toArray w y.cls → meth.sig.returnType = ret → meth.locks = false → NX s → (∀ x ∈ c.exceptionTable.toList, False) → NC s → ZQ A s s.heap → va_P D vwCl ws s.heap → va_K D vwCl tys s → va_D A ws → (∀ q, s.heap.size ≤ q → A q) → va_S A s.heap s.heap [] → lv_has ls maxL (lv_args 0 av) →
      W p l e rm s m av.toArray below meth c s.heap [] 0 0 (vx_MQ below (Qc A) (XC A) av.toArray s mc ms A) (F0 m 0 ls [])) :
    vx_Met l y w rm (va_Pc av (xPre D tys ws sz)) (Qc (va_A ws sz)) (XC (va_A ws sz)) mc ms (va_A ws sz) := by
  refine vx_ofW (cc := cc) (maxL := maxL) (ret := ret) hy hw ?_
  intro p e s m args below meth c s₁ B hml ht hv
  obtain ⟨rfl, ⟨hsz, hP, hK, hD0, hN⟩, hC, hZ⟩ := hv
  subst hsz
  rw [lg_entry_eq]
  exact body p e s m below meth c (va_A ws s.heap.size) _ ⟨B.exec, B.bytes, hml, findClass_of_methodNamed B.named, atoms_spec (ws := w) B.pre⟩ B.returns B.notSynchronized hN ht hC hZ hP hK hD0.self (fun q h => Or.inr h) va_S.rf (lv_entry av hn)
theorem k_xc {D : va_G} {A : Nat → Prop} {xe : String → Prop} {ws : va_W} {s : State} {H : Heap} {locs : List Loc} {E : String} (hP : va_P D vwCl ws H) (hD : va_D A ws) (hS : va_S A s.heap H locs) (hxe : xe E) : ∀ t : State, s.vm.Alike t.vm → H.size ≤ t.heap.size → (∀ q : Nat, q < H.size → t.heap[q]? = H[q]?) → vx_X (fun _ : Unit => True) (xB D A xe ws) A E s t :=
  fun t _ h1 h2 => ⟨(), trivial, ⟨hxe, hP.kept (fun k q hk => h2 q.1 (hP k q hk).lt), hD⟩, Nat.le_trans hS.1 h1, fun q h3 h4 => (h2 q (Nat.lt_of_lt_of_le h3 hS.1)).trans (hS.2.1 q h3 h4)⟩
theorem EXN_ok : ∀ n ∈ EXN, Bundle.fit n = true := by decide +kernel
theorem NCat1 {args : Array Value} {s : State} (h : NC s) (h1 : ∀ w ∈ (vx_atS RX3 40 IAE EXN).filter goodWord, w.before args s = true) : ∀ w ∈ vx_atS RX3 40 IAE EXN, w.before args s = true := vx_hat h1 (B := [.castable IAE IAE, .declares (Bundle.initS "java/lang/RuntimeException"), .declares (Bundle.initS "java/lang/Exception"), .declares (Bundle.initS Bundle.tN)]) (by decide +kernel) (vx_c (va_Nw.use rfl h.1.1) (vx_c (va_Nw.use rfl h.2.1) (vx_c (va_Nw.use rfl h.2.2.1) (vx_c (va_Nw.use rfl h.2.2.2) vx_n))))
theorem NCat2 {args : Array Value} {s : State} (h : NC s) (h1 : ∀ w ∈ (vx_atS RX3 84 ISE EXN).filter goodWord, w.before args s = true) : ∀ w ∈ vx_atS RX3 84 ISE EXN, w.before args s = true := vx_hat h1 (B := [.castable ISE ISE, .declares (Bundle.initS "java/lang/RuntimeException"), .declares (Bundle.initS "java/lang/Exception"), .declares (Bundle.initS Bundle.tN)]) (by decide +kernel) (vx_c (va_Nw.use rfl h.1.2.1) (vx_c (va_Nw.use rfl h.2.1) (vx_c (va_Nw.use rfl h.2.2.1) (vx_c (va_Nw.use rfl h.2.2.2) vx_n))))
theorem NCat3 {args : Array Value} {s : State} (h : NC s) (h1 : ∀ w ∈ (vx_atS RX3 64 IOE EXN).filter goodWord, w.before args s = true) : ∀ w ∈ vx_atS RX3 64 IOE EXN, w.before args s = true := vx_hat h1 (B := [.castable IOE IOE, .declares (Bundle.initS "java/lang/RuntimeException"), .declares (Bundle.initS "java/lang/Exception"), .declares (Bundle.initS Bundle.tN)]) (by decide +kernel) (vx_c (va_Nw.use rfl h.1.2.2.1) (vx_c (va_Nw.use rfl h.2.1) (vx_c (va_Nw.use rfl h.2.2.1) (vx_c (va_Nw.use rfl h.2.2.2) vx_n))))
theorem NCgood1 : ∀ w ∈ Cond.classLink RX3 36 IAE :: Cond.initialized IAE :: vx_atS RX3 40 IAE EXN, vx_ot w = true := by decide +kernel
theorem NCgood2 : ∀ w ∈ Cond.classLink RX3 80 ISE :: Cond.initialized ISE :: vx_atS RX3 84 ISE EXN, vx_ot w = true := by decide +kernel
theorem NCgood3 : ∀ w ∈ Cond.classLink RX3 60 IOE :: Cond.initialized IOE :: vx_atS RX3 64 IOE EXN, vx_ot w = true := by decide +kernel
abbrev oneTo (x : Int32) (n : Nat) : Prop := ¬ x < nI 1 ∧ ¬ nI n < x
theorem oneTo_nI {x : Int32} {n : Nat} (hn : n < 2 ^ 31) (h : oneTo x n) : x = nI x.toNatClampNeg ∧ 1 ≤ x.toNatClampNeg ∧ x.toNatClampNeg ≤ n := by
  have h1 := h.1
  have h2 := h.2
  rw [Int32.lt_iff_toInt_lt, nI_toInt (by decide)] at h1
  rw [Int32.lt_iff_toInt_lt, nI_toInt hn] at h2
  have h3 : ¬ x < 0 := by
    rw [Int32.lt_iff_toInt_lt]
    have : (0 : Int32).toInt = 0 := by decide
    omega
  obtain ⟨j, hj, rfl⟩ := nI_of h3
  rw [nI_clamp hj]
  rw [nI_toInt hj] at h1 h2
  exact ⟨rfl, by omega, by omega⟩
end
