section
-- ===== PART A: goes FIRST, ahead of the names: the tables' words, and 'selects' of the private methods out of them =====
/-- a private method of a class that the tables say can be made, by its rows of tables_1 -/
def lw_okq (q : MethodName × Nat) : Prop := (q.1.cls ≠ "java/lang/invoke/MethodHandle" ∧ q.1.cls ≠ "java/lang/invoke/VarHandle") ∧ Cond.instantiable q.1.cls q.2 ∈ tables_1 ∧ Cond.privateMethod q.1 ∈ tables_1 ∧ Cond.instanceMethod q.1 ∈ tables_1
theorem lw_p0 : lw_okq (⟨"SceneTree", "refreshView", "()V"⟩, 14) := ⟨⟨by decide +kernel, by decide +kernel⟩, List.mem_of_getElem? (i := 11) (by decide +kernel), List.mem_of_getElem? (i := 45) (by decide +kernel), List.mem_of_getElem? (i := 46) (by decide +kernel)⟩
theorem lw_p1 : lw_okq (⟨"SceneTree$Turner", "turnOf", "([I)[I"⟩, 5) := ⟨⟨by decide +kernel, by decide +kernel⟩, List.mem_of_getElem? (i := 21) (by decide +kernel), List.mem_of_getElem? (i := 49) (by decide +kernel), List.mem_of_getElem? (i := 50) (by decide +kernel)⟩
theorem lw_p2 : lw_okq (⟨"SceneTree", "refreshLocal", "(I)V"⟩, 14) := ⟨⟨by decide +kernel, by decide +kernel⟩, List.mem_of_getElem? (i := 11) (by decide +kernel), List.mem_of_getElem? (i := 143) (by decide +kernel), List.mem_of_getElem? (i := 144) (by decide +kernel)⟩
theorem lw_p3 : lw_okq (⟨"SceneTree", "isNode", "(I)Z"⟩, 14) := ⟨⟨by decide +kernel, by decide +kernel⟩, List.mem_of_getElem? (i := 11) (by decide +kernel), List.mem_of_getElem? (i := 155) (by decide +kernel), List.mem_of_getElem? (i := 156) (by decide +kernel)⟩
theorem lw_p4 : lw_okq (⟨"SceneTree", "markOpen", "()V"⟩, 14) := ⟨⟨by decide +kernel, by decide +kernel⟩, List.mem_of_getElem? (i := 11) (by decide +kernel), List.mem_of_getElem? (i := 186) (by decide +kernel), List.mem_of_getElem? (i := 187) (by decide +kernel)⟩
theorem lw_p5 : lw_okq (⟨"SceneTree", "isSeen", "(I)Z"⟩, 14) := ⟨⟨by decide +kernel, by decide +kernel⟩, List.mem_of_getElem? (i := 11) (by decide +kernel), List.mem_of_getElem? (i := 190) (by decide +kernel), List.mem_of_getElem? (i := 191) (by decide +kernel)⟩
theorem lw_p6 : lw_okq (⟨"SceneTree", "putInOrder", "()I"⟩, 14) := ⟨⟨by decide +kernel, by decide +kernel⟩, List.mem_of_getElem? (i := 11) (by decide +kernel), List.mem_of_getElem? (i := 198) (by decide +kernel), List.mem_of_getElem? (i := 199) (by decide +kernel)⟩
theorem lw_p7 : lw_okq (⟨"SceneTree", "readyWorlds", "(I)V"⟩, 14) := ⟨⟨by decide +kernel, by decide +kernel⟩, List.mem_of_getElem? (i := 11) (by decide +kernel), List.mem_of_getElem? (i := 202) (by decide +kernel), List.mem_of_getElem? (i := 203) (by decide +kernel)⟩
theorem lw_p8 : lw_okq (⟨"SceneTree", "insert", "(II)V"⟩, 14) := ⟨⟨by decide +kernel, by decide +kernel⟩, List.mem_of_getElem? (i := 11) (by decide +kernel), List.mem_of_getElem? (i := 213) (by decide +kernel), List.mem_of_getElem? (i := 214) (by decide +kernel)⟩
theorem lw_p9 : lw_okq (⟨"SceneTree", "isDrawnBefore", "(II)Z"⟩, 14) := ⟨⟨by decide +kernel, by decide +kernel⟩, List.mem_of_getElem? (i := 11) (by decide +kernel), List.mem_of_getElem? (i := 217) (by decide +kernel), List.mem_of_getElem? (i := 218) (by decide +kernel)⟩
theorem lw_p10 : lw_okq (⟨"java/lang/Throwable", "fillInStackTrace", "(I)Ljava/lang/Throwable;"⟩, 6) := ⟨⟨by decide +kernel, by decide +kernel⟩, List.mem_of_getElem? (i := 272) (by decide +kernel), List.mem_of_getElem? (i := 270) (by decide +kernel), List.mem_of_getElem? (i := 271) (by decide +kernel)⟩
theorem lw_p11 : lw_okq (⟨"SceneTreeModel", "isNode", "(I)Z"⟩, 14) := ⟨⟨by decide +kernel, by decide +kernel⟩, List.mem_of_getElem? (i := 311) (by decide +kernel), List.mem_of_getElem? (i := 378) (by decide +kernel), List.mem_of_getElem? (i := 379) (by decide +kernel)⟩
theorem lw_p12 : lw_okq (⟨"SceneTreeModel", "lays", "(IIIII)Z"⟩, 14) := ⟨⟨by decide +kernel, by decide +kernel⟩, List.mem_of_getElem? (i := 311) (by decide +kernel), List.mem_of_getElem? (i := 382) (by decide +kernel), List.mem_of_getElem? (i := 383) (by decide +kernel)⟩
theorem lw_p13 : lw_okq (⟨"SceneTreeModel", "isPlace", "(III)Z"⟩, 14) := ⟨⟨by decide +kernel, by decide +kernel⟩, List.mem_of_getElem? (i := 311) (by decide +kernel), List.mem_of_getElem? (i := 407) (by decide +kernel), List.mem_of_getElem? (i := 408) (by decide +kernel)⟩
theorem lw_p14 : lw_okq (⟨"SceneTreeModel", "makesWorld", "(I)V"⟩, 14) := ⟨⟨by decide +kernel, by decide +kernel⟩, List.mem_of_getElem? (i := 311) (by decide +kernel), List.mem_of_getElem? (i := 411) (by decide +kernel), List.mem_of_getElem? (i := 412) (by decide +kernel)⟩
theorem lw_p15 : lw_okq (⟨"SceneTreeModel", "makesLocal", "(I)V"⟩, 14) := ⟨⟨by decide +kernel, by decide +kernel⟩, List.mem_of_getElem? (i := 311) (by decide +kernel), List.mem_of_getElem? (i := 415) (by decide +kernel), List.mem_of_getElem? (i := 416) (by decide +kernel)⟩
def lw_privs_1 : List (MethodName × Nat) := [(⟨"SceneTree", "refreshView", "()V"⟩, 14), (⟨"SceneTree$Turner", "turnOf", "([I)[I"⟩, 5), (⟨"SceneTree", "refreshLocal", "(I)V"⟩, 14), (⟨"SceneTree", "isNode", "(I)Z"⟩, 14), (⟨"SceneTree", "markOpen", "()V"⟩, 14), (⟨"SceneTree", "isSeen", "(I)Z"⟩, 14), (⟨"SceneTree", "putInOrder", "()I"⟩, 14), (⟨"SceneTree", "readyWorlds", "(I)V"⟩, 14), (⟨"SceneTree", "insert", "(II)V"⟩, 14), (⟨"SceneTree", "isDrawnBefore", "(II)Z"⟩, 14), (⟨"java/lang/Throwable", "fillInStackTrace", "(I)Ljava/lang/Throwable;"⟩, 6), (⟨"SceneTreeModel", "isNode", "(I)Z"⟩, 14), (⟨"SceneTreeModel", "lays", "(IIIII)Z"⟩, 14), (⟨"SceneTreeModel", "isPlace", "(III)Z"⟩, 14), (⟨"SceneTreeModel", "makesWorld", "(I)V"⟩, 14), (⟨"SceneTreeModel", "makesLocal", "(I)V"⟩, 14)]
theorem lw_r1 : ∀ q ∈ lw_privs_1, lw_okq q := List.forall_mem_cons.mpr ⟨lw_p0, List.forall_mem_cons.mpr ⟨lw_p1, List.forall_mem_cons.mpr ⟨lw_p2, List.forall_mem_cons.mpr ⟨lw_p3, List.forall_mem_cons.mpr ⟨lw_p4, List.forall_mem_cons.mpr ⟨lw_p5, List.forall_mem_cons.mpr ⟨lw_p6, List.forall_mem_cons.mpr ⟨lw_p7, List.forall_mem_cons.mpr ⟨lw_p8, List.forall_mem_cons.mpr ⟨lw_p9, List.forall_mem_cons.mpr ⟨lw_p10, List.forall_mem_cons.mpr ⟨lw_p11, List.forall_mem_cons.mpr ⟨lw_p12, List.forall_mem_cons.mpr ⟨lw_p13, List.forall_mem_cons.mpr ⟨lw_p14, List.forall_mem_cons.mpr ⟨lw_p15, fun _ h => absurd h List.not_mem_nil⟩⟩⟩⟩⟩⟩⟩⟩⟩⟩⟩⟩⟩⟩⟩⟩
theorem lw_p16 : lw_okq (⟨"SceneTreeModel", "turn", "(I)V"⟩, 14) := ⟨⟨by decide +kernel, by decide +kernel⟩, List.mem_of_getElem? (i := 311) (by decide +kernel), List.mem_of_getElem? (i := 419) (by decide +kernel), List.mem_of_getElem? (i := 420) (by decide +kernel)⟩
theorem lw_p17 : lw_okq (⟨"SceneTreeModel", "times", "()V"⟩, 14) := ⟨⟨by decide +kernel, by decide +kernel⟩, List.mem_of_getElem? (i := 311) (by decide +kernel), List.mem_of_getElem? (i := 436) (by decide +kernel), List.mem_of_getElem? (i := 437) (by decide +kernel)⟩
theorem lw_p18 : lw_okq (⟨"SceneTreeModel", "makesModel", "(I)V"⟩, 14) := ⟨⟨by decide +kernel, by decide +kernel⟩, List.mem_of_getElem? (i := 311) (by decide +kernel), List.mem_of_getElem? (i := 455) (by decide +kernel), List.mem_of_getElem? (i := 456) (by decide +kernel)⟩
theorem lw_p19 : lw_okq (⟨"SceneTreeModel", "isSeen", "(I)Z"⟩, 14) := ⟨⟨by decide +kernel, by decide +kernel⟩, List.mem_of_getElem? (i := 311) (by decide +kernel), List.mem_of_getElem? (i := 463) (by decide +kernel), List.mem_of_getElem? (i := 464) (by decide +kernel)⟩
theorem lw_p20 : lw_okq (⟨"SceneTreeModel", "isBefore", "(II)Z"⟩, 14) := ⟨⟨by decide +kernel, by decide +kernel⟩, List.mem_of_getElem? (i := 311) (by decide +kernel), List.mem_of_getElem? (i := 471) (by decide +kernel), List.mem_of_getElem? (i := 472) (by decide +kernel)⟩
def lw_privs_2 : List (MethodName × Nat) := [(⟨"SceneTreeModel", "turn", "(I)V"⟩, 14), (⟨"SceneTreeModel", "times", "()V"⟩, 14), (⟨"SceneTreeModel", "makesModel", "(I)V"⟩, 14), (⟨"SceneTreeModel", "isSeen", "(I)Z"⟩, 14), (⟨"SceneTreeModel", "isBefore", "(II)Z"⟩, 14)]
theorem lw_r2 : ∀ q ∈ lw_privs_2, lw_okq q := List.forall_mem_cons.mpr ⟨lw_p16, List.forall_mem_cons.mpr ⟨lw_p17, List.forall_mem_cons.mpr ⟨lw_p18, List.forall_mem_cons.mpr ⟨lw_p19, List.forall_mem_cons.mpr ⟨lw_p20, fun _ h => absurd h List.not_mem_nil⟩⟩⟩⟩⟩
def lw_privs : List (MethodName × Nat) := lw_privs_1 ++ (lw_privs_2)
def lw_tbl : List Cond := k2_sels lw_privs ++ tables_1
theorem lw_privs_ok : ∀ q ∈ lw_privs, lw_okq q := by
  show ∀ q ∈ lw_privs_1 ++ (lw_privs_2), lw_okq q
  exact List.forall_mem_append.mpr ⟨lw_r1, lw_r2⟩
/-! ===== BEGIN words of one list among another's, by their places ===== -/
theorem goodIn_r {big : List Cond} (ws : List Cond) (ps : List Nat) (hp : ws = ps.filterMap (fun i => big[i]?)) (h : ws.all goodWord = true) : GoodIn big ws := by
  intro w hw
  have h1 := List.all_eq_true.mp h w hw
  rw [hp] at hw
  obtain ⟨i, -, hi⟩ := List.mem_filterMap.mp hw
  have hm : w ∈ big := by first | exact List.mem_of_getElem? hi | exact List.getElem?_mem hi
  exact ⟨hm, good_of_word h1⟩
theorem goodIn_app {big a b : List Cond} (ha : GoodIn big a) (hb : GoodIn big b) : GoodIn big (a ++ b) := fun w h => (List.mem_append.mp h).elim (ha w) (hb w)
theorem goodIn_ca {big a b : List Cond} {c : Cond} (ha : GoodIn big (c :: a)) (hb : GoodIn big b) : GoodIn big (c :: (a ++ b)) := fun w h => (List.mem_cons.mp h).elim (fun e => ha w (List.mem_cons.mpr (Or.inl e))) (fun h => (List.mem_append.mp h).elim (fun h => ha w (List.mem_cons.mpr (Or.inr h))) (hb w))
theorem goodIn_sub {big ws : List Cond} (hm : ∀ w ∈ ws, w ∈ big) (h : ws.all goodWord = true) : GoodIn big ws := fun w hw => ⟨hm w hw, good_of_word (List.all_eq_true.mp h w hw)⟩
/-! ===== END ===== -/

/-! ===== BEGIN exceptions that leave a method, and their catching by the caller (launches without stack traces) ===== -/
section VXA
/-! The laws vx_back, vx_callV, vx_callS, vx_callSW, vx_throw0, vx_throwS follow proofs of the library, with one case more: JvmDerived/Free/Laws.lean (Back.of_free), Shelf42/LK1.lean (callV, callS), Shelf/KitTraced.lean (throwNew0V, throwNewS). -/

/-- where a method has thrown q: the class by its name, the cell, what was written, the world -/
def vx_T (XC : String → State → State → Prop) (st : State) (q : Addr) (t : State) (mc ms : Nat) (free : Addr → Prop) : Prop :=
  ∃ (E : String) (ce : Cell) (L : List Loc), XC E st t ∧ t.heap[q]? = some ce ∧ ce.vm = .none ∧ st.vm.findClass E = some ce.cls ∧ st.WarmedH t.vm ∧ st.sameButNew ({ t with vm := st.vm } : State) L mc ms ∧ ∀ z ∈ L, free z.base
def vx_Q (Qc : Array Value → State → Outcome → State → Prop) (XC : String → State → State → Prop) (mc ms : Nat) (free : Addr → Prop) : Array Value → State → Outcome → State → Prop := fun a st o t =>
  (Qc a st o t ∧ ∃ L, FrameEnd st o t L mc ms ∧ ∀ q ∈ L, free q.base) ∨ ∃ q, o = .threw q ∧ vx_T XC st q t mc ms free
/-- a callee that returns or throws -/
def vx_Met (l : Launch) (y : MethodName) (ws : List Cond) (rm : Room) (Pc : Array Value → State → Prop) (Qc : Array Value → State → Outcome → State → Prop) (XC : String → State → State → Prop) (mc ms : Nat) (free : Addr → Prop) : Prop :=
  MetFree l y (headSpec ws rm) Pc (fun _ _ _ _ _ => True) (vx_Q Qc XC mc ms free)
def vx_Post (XC : String → State → State → Prop) (mc ms : Nat) (free : Addr → Prop) : Pt → Array Value → Addr → Pt → Prop := fun A a q B =>
  ∃ (g : JFrame) (mk : MethodId) (t : State) (L : List Loc) (E : String) (ce : Cell), B.U.heap = t.heap ∧ B.U.vm = t.vm ∧ XC E (A.U.calling g mk a) t ∧ t.heap[q]? = some ce ∧ ce.vm = .none ∧ A.U.vm.findClass E = some ce.cls ∧ B.locs = A.locs ++ L ∧ (∀ z ∈ L, free z.base) ∧ B.cells = A.cells + mc ∧ B.slots = A.slots + ms
def vx_Back (l : Launch) (R : Room) (p : Program) (e : Env) (below : List Frame) (s : State) (sargs : Array Value) (y : MethodName) (len W9 : Nat)
    (Pre : Pt → Array Value → Prop) (Post : Pt → Array Value → Option Value → Pt → Prop) (PostX : Pt → Array Value → Addr → Pt → Prop) : Prop :=
  ∀ (m : MethodId) (meth : Method) (c : Code) (A : Pt) (g : JFrame) (ig : Instr) (mk : MethodId) (a : Array Value),
    Stand p l e R s m sargs below meth c A.U A.locs A.cells A.slots → g.method = m → g.locals.size = c.maxLocals → decode c.code g.pc = .ok (ig, len) →
    2 * g.monitorRoom + (g.stack.map fun v => v.category).sum ≤ W9 → A.U.methodNamed? y = some mk → Pre A a →
    (∃ (v : Option Value) (B : Pt), Stand p l e R s m sargs below meth c B.U B.locs B.cells B.slots ∧ Post A a v B ∧
      Steps p.tables e below (doInvoke e (A.U.setTop g) [] mk a).1 (B.U.setTop { g with pc := g.pc + len, stack := v.toList ++ g.stack })) ∨
    (∃ (q : Addr) (B : Pt), Stand p l e R s m sargs below meth c B.U B.locs B.cells B.slots ∧ PostX A a q B ∧
      Steps p.tables e below (doInvoke e (A.U.setTop g) [] mk a).1 ((B.U.setTop g).pushFrame (.throwing q)))
section Payer
variable {l : Launch} {R : Room} {p : Program} {e : Env} {below : List Frame} {s : State} {sargs : Array Value} {y : MethodName} {len W9 : Nat}
theorem vx_back {ws : List Cond} {rm : Room} {Pc : Array Value → State → Prop} {Qc : Array Value → State → Outcome → State → Prop} {XC : String → State → State → Prop} {mc ms : Nat} {free : Addr → Prop} {bytes : ByteArray} {maxL : Nat} {ret : Option FieldType}
    (hM : vx_Met l y ws rm Pc Qc XC mc ms free) (hblind : FrameBlind Pc) (hrc : rm.cells = mc) (hrs : rm.slots = ms)
    (hframes : rm.frames + 1 ≤ R.frames) (hlocals : W9 + (maxL + 11) + rm.locals ≤ R.locals)
    (hws : ∀ w ∈ ws, ∀ a' U, s.WarmedH U.vm → w.before a' U = true) (hcode : Cond.code y bytes maxL ret ∈ ws) (hinit : ∀ a' U, s.WarmedH U.vm → (Cond.initialized y.cls).before a' U = true) :
    vx_Back l R p e below s sargs y len W9 (PreOf R mc ms Pc) (PostOf Qc mc ms free) (vx_Post XC mc ms free) := by
  intro m meth c A g ig mk a X hg hsize hdg hW hn hp
  have h1 : (headSpec ws rm).pre.before a A.U = true := atoms_intro fun w hw => hws w hw _ _ X.warmed
  have h2 : (Cond.code y bytes maxL ret).before a A.U = true := hws _ hcode _ _ X.warmed
  have h3 : (Cond.initialized y.cls).before a A.U = true := hinit _ _ X.warmed
  have h4 : A.cells + (headSpec ws rm).room.cells ≤ R.cells := by rw [show (headSpec ws rm).room.cells = mc from hrc]; exact hp.1
  have h5 : A.slots + (headSpec ws rm).room.slots ≤ R.slots := by rw [show (headSpec ws rm).room.slots = ms from hrs]; exact hp.2.1
  have hPc : Pc a (A.U.calling g mk a) := hblind _ _ _ _ hp.2.2
  obtain ⟨U, Ls, c0, s0⟩ := A
  dsimp only [Pt.U, Pt.locs, Pt.cells, Pt.slots] at h1 h2 h3 h4 h5 X hn hPc ⊢
  obtain ⟨methY, cY, hmY, hcY, -, hlY, -, -, -, -⟩ := Cond.code_spec hn h2
  obtain ⟨kY, hkY, -⟩ := className_of_methodNamed hn
  have hinitY : kY.init = .initialized := Cond.initialized_spec (findClass_of_methodNamed hn) hkY h3
  have h : At U g.method c below := by rw [hg]; exact X.here
  have hlocals9 : W9 + (maxL + 11) + (headSpec ws rm).room.locals ≤ R.locals := hlocals
  have happ : (headSpec ws rm).appliesLoose y e.platform (U.calling g mk a) = true :=
    Spec.appliesLoose_calling (g := g) h hdg hn hkY hinitY
      (X.room_calling (g := g) (R' := (headSpec ws rm).room) hsize hmY hcY hframes (by rw [hlY]; omega) h4 h5) h1
  obtain ⟨mid, hmid⟩ := h.above
  have hfr : (U.setTop g).frames = (.java g :: mid) ++ below := by rw [State.frames_setTop' g h.top, hmid]; rfl
  obtain ⟨o, s₂, hsteps, -, hend, hq⟩ := Steps.callFree hM p X.admits X.cas X.clock (acts := []) hfr happ hPc trivial
  have hq' : vx_Q Qc XC mc ms free a (U.calling g mk a) o s₂ := hq
  rw [State.frames_setTop' g h.top] at hend
  obtain ⟨g₀, hg0⟩ := Option.isSome_iff_exists.mp h.top
  obtain ⟨r, hr⟩ := State.topJava?_eq_some.mp hg0
  have hr' : (({ U with heap := s₂.heap, slotsUsed := s₂.slotsUsed } : State).setVm s₂.vm).frames = .java g₀ :: r := hr
  rcases hq' with ⟨hqc, L, hfe, hL⟩ | ⟨q, rfl, E, ce, L, hx, hce, hcv, hcl, hW₂, hsm, hL⟩
  · obtain ⟨⟨v, rfl⟩, hW₂, e2, q2, q3, q4, q5, q6⟩ := id hfe
    have e3 : s₂ = ({ (U.calling g mk a).setFrames s₂.frames with heap := s₂.heap, slotsUsed := s₂.slotsUsed } : State).setVm s₂.vm := by
      have : s₂ = ({ s₂ with vm := (U.calling g mk a).vm } : State).setVm s₂.vm := rfl
      rw [e2] at this
      exact this
    obtain ⟨c₂, i₂, len₂, hc₂, hd₂, hf₂⟩ := hend
    have hW' : U.WarmedH s₂.vm := hW₂
    have hcc : c₂ = c := by
      have h1 : s₂.code? g.method = U.code? g.method := by
        rw [State.code?_eq, State.code?_eq, hW'.alike.method?]
      exact Option.some.inj (hc₂.symm.trans (h1.trans h.code))
    subst hcc
    have hlen : len₂ = len := by rw [hdg] at hd₂; cases hd₂; rfl
    subst hlen
    have hs₂ : s₂ = (({ U with heap := s₂.heap, slotsUsed := s₂.slotsUsed } : State).setVm s₂.vm).setTop { g with pc := g.pc + len₂, stack := v.toList ++ g.stack } := by
      refine e3.trans ?_
      rw [hf₂, State.calling_eq h.top, State.setFrames_setFrames, State.setTop_of_frames _ hr', hr]
      rfl
    have hsame : U.sameButNew ({ U with heap := s₂.heap, slotsUsed := s₂.slotsUsed } : State) L mc ms := by
      refine ⟨?_, q2, q3, q4, q5, q6⟩
      obtain ⟨t, ht, -⟩ := State.frames_cons hr
      show ({ U with heap := s₂.heap, slotsUsed := s₂.slotsUsed } : State) = { U.setFrames U.frames with heap := s₂.heap, slotsUsed := s₂.slotsUsed }
      rw [State.setFrames_self ht]
    subst hg
    refine Or.inl ⟨v, ⟨(({ U with heap := s₂.heap, slotsUsed := s₂.slotsUsed } : State).setVm s₂.vm), Ls ++ L, c0 + mc, s0 + ms⟩,
      ⟨X.admits, X.cas, X.clock, X.frames, X.room, X.hears, X.method, X.code, (X.here.setHeapUsed s₂.heap s₂.slotsUsed).setVm hW'.alike, X.tail, State.WarmedH.trans X.warmed hW', X.limits, X.bytes, X.same.trans (hsame.setVm s.vm)⟩,
      ⟨g, mk, s₂, L, rfl, rfl, hqc, rfl, hL, rfl, rfl⟩, ?_⟩
    show Steps p.tables e below _ ((({ U with heap := s₂.heap, slotsUsed := s₂.slotsUsed } : State).setVm s₂.vm).setTop { g with pc := g.pc + len₂, stack := v.toList ++ g.stack })
    rw [← hs₂]
    exact hsteps
  · obtain ⟨e2, q2, q3, q4, q5, q6⟩ := id hsm
    have e3 : s₂ = ({ (U.calling g mk a).setFrames s₂.frames with heap := s₂.heap, slotsUsed := s₂.slotsUsed } : State).setVm s₂.vm := by
      have : s₂ = ({ s₂ with vm := (U.calling g mk a).vm } : State).setVm s₂.vm := rfl
      rw [e2] at this
      exact this
    have hf₂ : s₂.frames = .throwing q :: .java g :: U.frames.tail := hend
    have hW' : U.WarmedH s₂.vm := hW₂
    have hs₂ : s₂ = ((({ U with heap := s₂.heap, slotsUsed := s₂.slotsUsed } : State).setVm s₂.vm).setTop g).pushFrame (.throwing q) := by
      refine e3.trans ?_
      rw [hf₂, State.calling_eq h.top, State.setFrames_setFrames, State.pushFrame, State.frames_setTop _ hr', State.setTop_of_frames _ hr', State.setFrames_setFrames, hr]
      rfl
    have hsame : U.sameButNew ({ U with heap := s₂.heap, slotsUsed := s₂.slotsUsed } : State) L mc ms := by
      refine ⟨?_, q2, q3, q4, q5, q6⟩
      obtain ⟨t, ht, -⟩ := State.frames_cons hr
      show ({ U with heap := s₂.heap, slotsUsed := s₂.slotsUsed } : State) = { U.setFrames U.frames with heap := s₂.heap, slotsUsed := s₂.slotsUsed }
      rw [State.setFrames_self ht]
    subst hg
    refine Or.inr ⟨q, ⟨(({ U with heap := s₂.heap, slotsUsed := s₂.slotsUsed } : State).setVm s₂.vm), Ls ++ L, c0 + mc, s0 + ms⟩,
      ⟨X.admits, X.cas, X.clock, X.frames, X.room, X.hears, X.method, X.code, (X.here.setHeapUsed s₂.heap s₂.slotsUsed).setVm hW'.alike, X.tail, State.WarmedH.trans X.warmed hW', X.limits, X.bytes, X.same.trans (hsame.setVm s.vm)⟩,
      ⟨g, mk, s₂, L, E, ce, rfl, rfl, hx, hce, hcv, hcl, rfl, hL, rfl, rfl⟩, ?_⟩
    show Steps p.tables e below _ (((({ U with heap := s₂.heap, slotsUsed := s₂.slotsUsed } : State).setVm s₂.vm).setTop g).pushFrame (.throwing q))
    rw [← hs₂]
    exact hsteps
end Payer
section Calls
variable {p : Program} {l : Launch} {e : Env} {R : Room} {s : State} {m : MethodId} {args : Array Value} {below : List Frame} {meth : Method} {c : Code} {T : State} {locs : List Loc} {cells slots : Nat}
theorem vx_callV (X : Stand p l e R s m args below meth c T locs cells slots) (hexec : p.tables.exec = Jvm.exec) {own C : String} {index : Nat} {y : MethodName} {bytes : ByteArray} {maxL : Nat} {ret : Option FieldType}
    (hown : s.vm.findClass own = some m.cls) (hlink : (Cond.methodLink own index y).before args s = true) (hinst : (Cond.instanceMethod y).before args s = true) (hsel : (Cond.selects C y y).before args s = true)
    (hcode : (Cond.code y bytes maxL ret).before args s = true) (hy : y.cls ≠ "java/lang/invoke/MethodHandle" ∧ y.cls ≠ "java/lang/invoke/VarHandle")
    {W9 : Nat} {Pre : Pt → Array Value → Prop} {Post : Pt → Array Value → Option Value → Pt → Prop} {PostX : Pt → Array Value → Addr → Pt → Prop} (hK : vx_Back l R p e below s args y 3 W9 Pre Post PostX)
    {b : Addr} {cellB : Cell} (hcell : T.heap[b]? = some cellB) (hobj : cellB.vm.isStatics = false) (hcls : s.vm.findClass C = some cellB.cls)
    {g : JFrame} (hg : g.method = m) (hsize : g.locals.size = c.maxLocals) {argsL rest : List Value} (hlen : ∀ sig, parseMethodDescriptor y.desc = some sig → argsL.length = sig.parameters.length)
    (hstack : g.stack = argsL.reverse ++ .ref b :: rest) (hW : 2 * g.monitorRoom + (rest.map fun v => v.category).sum ≤ W9) (hdg : decode c.code g.pc = .ok (.invokevirtual index, 3))
    (hpre : ∀ vm₁, s.WarmedH vm₁ → Pre ⟨T.setVm vm₁, locs, cells, slots⟩ (Value.ref b :: argsL).toArray) :
    (∃ (v : Option Value) (vm₁ : Vm) (B : Pt), s.WarmedH vm₁ ∧ Stand p l e R s m args below meth c B.U B.locs B.cells B.slots ∧ Post ⟨T.setVm vm₁, locs, cells, slots⟩ (Value.ref b :: argsL).toArray v B ∧
      ∀ target, Steps p.tables e below (B.U.setTop { g with pc := g.pc + 3, stack := v.toList ++ rest }) target → Steps p.tables e below (T.setTop g) target) ∨
    (∃ (q : Addr) (vm₁ : Vm) (B : Pt), s.WarmedH vm₁ ∧ Stand p l e R s m args below meth c B.U B.locs B.cells B.slots ∧ PostX ⟨T.setVm vm₁, locs, cells, slots⟩ (Value.ref b :: argsL).toArray q B ∧
      Steps p.tables e below (T.setTop g) ((B.U.setTop { g with stack := rest }).pushFrame (.throwing q))) := by
  obtain ⟨mk, methM, hnamed, hmethM, hstM, habM⟩ := Cond.instanceMethod_spec hinst
  obtain ⟨methM', cM, hmethM', -, -, -, -, -, -, hsigM⟩ := Cond.code_spec hnamed hcode
  cases hmethM.symm.trans hmethM'
  obtain ⟨c2, r2, m2, q1, q2, q3, q4, kP, hkP, hkPi⟩ := Cond.selects_spec hsel
  cases hcls.symm.trans q1
  cases (State.methodFound?_of_named hnamed hy).symm.trans q2
  cases hnamed.symm.trans q3
  have hselP : selectMethod e.platform s.vm cellB.cls mk = .method mk := by rw [Launch.admits_selectMethod X.admits]; exact q4
  obtain ⟨vm₁, X₁, hstep₁⟩ := X.invokevirtual hexec hown hlink hnamed hmethM hstM hkP hkPi hy (a := b) (cell := cellB) hcell
    (fun z h => by rw [h] at hobj; cases hobj) hselP hmethM habM hkP hkPi (g := g) hg (argsL := argsL) (rest := rest) (hlen _ hsigM) hstack hdg
  rcases hK m meth c ⟨T.setVm vm₁, locs, cells, slots⟩ { g with stack := rest } (.invokevirtual index) mk (Value.ref b :: argsL).toArray X₁ hg hsize hdg hW (X₁.named hnamed) (hpre vm₁ X₁.warmed) with ⟨v, B, X', hpost, hsteps⟩ | ⟨q, B, X', hpost, hsteps⟩
  · exact Or.inl ⟨v, vm₁, B, X₁.warmed, X', hpost, fun target h => hstep₁ _ fun acts => by rw [doInvoke_state]; exact hsteps.trans h⟩
  · exact Or.inr ⟨q, vm₁, B, X₁.warmed, X', hpost, hstep₁ _ fun acts => by rw [doInvoke_state]; exact hsteps⟩
theorem vx_callS (X : Stand p l e R s m args below meth c T locs cells slots) (hexec : p.tables.exec = Jvm.exec) {own : String} {index : Nat} {y : MethodName} {bytes : ByteArray} {maxL : Nat} {ret : Option FieldType}
    (hown : s.vm.findClass own = some m.cls) (hlink : (Cond.methodLink own index y).before args s = true) (hstat : (Cond.static y).before args s = true) (hinit : (Cond.initialized y.cls).before args s = true)
    (hcode : (Cond.code y bytes maxL ret).before args s = true) (hy : y.cls ≠ "java/lang/invoke/MethodHandle" ∧ y.cls ≠ "java/lang/invoke/VarHandle")
    {W9 : Nat} {Pre : Pt → Array Value → Prop} {Post : Pt → Array Value → Option Value → Pt → Prop} {PostX : Pt → Array Value → Addr → Pt → Prop} (hK : vx_Back l R p e below s args y 3 W9 Pre Post PostX)
    {g : JFrame} (hg : g.method = m) (hsize : g.locals.size = c.maxLocals) {argsL rest : List Value} (hlen : ∀ sig, parseMethodDescriptor y.desc = some sig → argsL.length = sig.parameters.length)
    (hstack : g.stack = argsL.reverse ++ rest) (hW : 2 * g.monitorRoom + (rest.map fun v => v.category).sum ≤ W9) (hdg : decode c.code g.pc = .ok (.invokestatic index, 3))
    (hpre : ∀ vm₁, s.WarmedH vm₁ → Pre ⟨T.setVm vm₁, locs, cells, slots⟩ argsL.toArray) :
    (∃ (v : Option Value) (vm₁ : Vm) (B : Pt), s.WarmedH vm₁ ∧ Stand p l e R s m args below meth c B.U B.locs B.cells B.slots ∧ Post ⟨T.setVm vm₁, locs, cells, slots⟩ argsL.toArray v B ∧
      ∀ target, Steps p.tables e below (B.U.setTop { g with pc := g.pc + 3, stack := v.toList ++ rest }) target → Steps p.tables e below (T.setTop g) target) ∨
    (∃ (q : Addr) (vm₁ : Vm) (B : Pt), s.WarmedH vm₁ ∧ Stand p l e R s m args below meth c B.U B.locs B.cells B.slots ∧ PostX ⟨T.setVm vm₁, locs, cells, slots⟩ argsL.toArray q B ∧
      Steps p.tables e below (T.setTop g) ((B.U.setTop { g with stack := rest }).pushFrame (.throwing q))) := by
  obtain ⟨mk, hnamed⟩ := Cond.code_named hcode
  obtain ⟨methM, cM, hmethM, -, -, -, -, -, -, hsigM⟩ := Cond.code_spec hnamed hcode
  have hstatic : methM.isStatic = true := Cond.static_spec hnamed hmethM hstat
  obtain ⟨kP, hkP, -⟩ := className_of_methodNamed hnamed
  have hinitP : kP.init = .initialized := Cond.initialized_spec (findClass_of_methodNamed hnamed) hkP hinit
  obtain ⟨vm₁, X₁, hstep₁⟩ := X.invokestatic hexec hown hlink hnamed hmethM hstatic hkP hinitP hy (g := g) hg (argsL := argsL) (rest := rest) (hlen _ hsigM) hstack hdg
  rcases hK m meth c ⟨T.setVm vm₁, locs, cells, slots⟩ { g with stack := rest } (.invokestatic index) mk argsL.toArray X₁ hg hsize hdg hW (X₁.named hnamed) (hpre vm₁ X₁.warmed) with ⟨v, B, X', hpost, hsteps⟩ | ⟨q, B, X', hpost, hsteps⟩
  · exact Or.inl ⟨v, vm₁, B, X₁.warmed, X', hpost, fun target h => hstep₁ _ fun acts => by rw [doInvoke_state]; exact hsteps.trans h⟩
  · exact Or.inr ⟨q, vm₁, B, X₁.warmed, X', hpost, hstep₁ _ fun acts => by rw [doInvoke_state]; exact hsteps⟩
end Calls
theorem vx_cls {s : State} {T : State} {vm₁ : Vm} {E : String} {k : ClassId} (hW : s.WarmedH vm₁) (h : (T.setVm vm₁).vm.findClass E = some k) : s.vm.findClass E = some k := by
  have h1 : vm₁.findClass E = some k := h
  rw [hW.alike.findClass] at h1
  exact h1
/-- the method's frame g, with q thrown over it -/
def vx_W (p : Program) (l : Launch) (e : Env) (R : Room) (s : State) (m : MethodId) (args : Array Value) (below : List Frame) (meth : Method) (c : Code) (H : Heap) (locs : List Loc) (cells slots : Nat) (Q : State → Prop) (g : JFrame) (q : Addr) : Prop :=
  ∀ T : State, T.heap = H → Stand p l e R s m args below meth c T locs cells slots → ∃ t, Steps p.tables e below ((T.setTop g).pushFrame (.throwing q)) t ∧ Q t
def vx_Run (p : Program) (l : Launch) (e : Env) (R : Room) (s : State) (m : MethodId) (args : Array Value) (below : List Frame) (meth : Method) (c : Code) (H : Heap) (locs : List Loc) (cells slots mc ms : Nat) (g : JFrame) (rest : List Value) (Qa : State → Outcome → State → Prop) (XC : String → State → State → Prop) (free : Addr → Prop) : Prop :=
  ∀ T : State, T.heap = H → Stand p l e R s m args below meth c T locs cells slots →
    (∃ (v : Option Value) (st₀ t T' : State) (L : List Loc), st₀.heap = H ∧ Stand p l e R s m args below meth c T' (locs ++ L) (cells + mc) (slots + ms) ∧ (∀ q ∈ L, free q.base) ∧ T'.heap = t.heap ∧ T'.vm = t.vm ∧ Qa st₀ (.returned v) t ∧
      Goes p e below T g T' { g with pc := g.pc + 3, stack := v.toList ++ rest }) ∨
    (∃ (q : Addr) (st₀ t T' : State) (L : List Loc) (E : String) (ce : Cell), st₀.heap = H ∧ Stand p l e R s m args below meth c T' (locs ++ L) (cells + mc) (slots + ms) ∧ (∀ z ∈ L, free z.base) ∧ T'.heap = t.heap ∧ T'.vm = t.vm ∧ XC E st₀ t ∧ t.heap[q]? = some ce ∧ ce.vm = .none ∧ s.vm.findClass E = some ce.cls ∧
      Steps p.tables e below (T.setTop g) ((T'.setTop { g with stack := rest }).pushFrame (.throwing q)))
def vx_X {S : Type} (px : S → Prop) (B : String → S → State → Prop) (A : Nat → Prop) : String → State → State → Prop := fun E st t => ∃ u : S, px u ∧ B E u t ∧ va_F A st t
section Runs
variable {p : Program} {l : Launch} {e : Env} {R : Room} {s : State} {m : MethodId} {args : Array Value} {below : List Frame} {meth : Method} {c : Code} {H : Heap} {locs : List Loc} {cells slots : Nat}
variable {y : MethodName} {bytes cc : ByteArray} {maxL nL mc ms n index : Nat} {ret : Option FieldType} {ws : List Cond} {rm : Room} {Pc : Array Value → State → Prop} {Qc : Array Value → State → Outcome → State → Prop} {XC : String → State → State → Prop} {free : Addr → Prop} {Ts : List Cond} {own C : String} {b : Addr} {As rest : List Value} {g : JFrame}
theorem vx_callBack (cb : CallB R s args own index y bytes maxL ret ws rm mc ms n) (hM : vx_Met l y ws rm Pc Qc XC mc ms free) (hbl : FrameBlind Pc) : vx_Back l R p e below s args y 3 8 (PreOf R mc ms Pc) (PostOf Qc mc ms free) (vx_Post XC mc ms free) := by
  obtain ⟨hrc, hrs, hfr, hlo, hws, hcw, -, hini, -⟩ := cb
  exact vx_back (bytes := bytes) (maxL := maxL) (ret := ret) hM hbl hrc hrs hfr hlo hws hcw (fun a' U hW => word_at hW (Or.inl (by first | rfl | simp [Cond.onTables, Cond.keeps, Cond.steady])) hini)
theorem vx_runV (S : CallFix p m c cc nL s args Ts own) (hM : vx_Met l y ws rm Pc Qc XC mc ms free) (cw : CallW R s args own C index y bytes maxL ret ws rm mc ms n) (hp : PreV s H C b Pc As)
    (hg : g.method = m) (hn : As.length = n) (hsize : g.locals.size = nL) (hstack : g.stack = As.reverse ++ .ref b :: rest) (hW : 2 * g.monitorRoom + (rest.map fun v => v.category).sum ≤ 8) (hdg : decode cc g.pc = .ok (.invokevirtual index, 3)) (hf : cells + mc ≤ R.cells ∧ slots + ms ≤ R.slots) :
    vx_Run p l e R s m args below meth c H locs cells slots mc ms g rest (Qc (Value.ref b :: As).toArray) XC free := by
  have hK : vx_Back l R p e below s args y 3 8 (PreOf R mc ms Pc) (PostOf Qc mc ms free) (vx_Post XC mc ms free) := vx_callBack cw.1 hM hp.1
  obtain ⟨⟨-, -, -, -, -, -, hcode, -, hy, hlen, hl⟩, hin, hse⟩ := cw
  obtain ⟨hx, hb, hml, ho, -⟩ := S
  obtain ⟨-, ⟨cellB, hcB, hoB, hclB⟩, hPc⟩ := hp
  intro T hT X
  rcases vx_callV X hx (C := C) (bytes := bytes) (maxL := maxL) (ret := ret) ho hl hin hse hcode hy hK (by rw [hT]; exact hcB) hoB hclB hg (hsize.trans hml.symm) (argsL := As) (rest := rest) (fun sig h => hn.trans (hlen sig h)) hstack hW (by rw [hb]; exact hdg)
    (fun vm₁ hW₁ => ⟨hf.1, hf.2, hPc (T.setVm vm₁) hT hW₁⟩) with ⟨v, vm₁, ⟨U', l2, c2, s2⟩, hW₁, X', ⟨g', mk, t, L, e1, e2, hq, h1, hL, h2, h3⟩, st⟩ | ⟨q, vm₁, ⟨U', l2, c2, s2⟩, hW₁, X', ⟨g', mk, t, L, E, ce, e1, e2, hq, hce, hcv, hcl, h1, hL, h2, h3⟩, st⟩
  · dsimp only [Pt.U, Pt.locs, Pt.cells, Pt.slots] at X' e1 e2 h1 h2 h3 st
    subst h1; subst h2; subst h3
    exact Or.inl ⟨v, (T.setVm vm₁).calling g' mk (Value.ref b :: As).toArray, t, U', L, hT, X', hL, e1, e2, hq, st⟩
  · dsimp only [Pt.U, Pt.locs, Pt.cells, Pt.slots] at X' e1 e2 h1 h2 h3 st hcl
    subst h1; subst h2; subst h3
    exact Or.inr ⟨q, (T.setVm vm₁).calling g' mk (Value.ref b :: As).toArray, t, U', L, E, ce, hT, X', hL, e1, e2, hq, hce, hcv, vx_cls hW₁ hcl, st⟩
theorem vx_runS (S : CallFix p m c cc nL s args Ts own) (hM : vx_Met l y ws rm Pc Qc XC mc ms free) (cw : CallB R s args own index y bytes maxL ret ws rm mc ms n ∧ (Cond.static y).before args s = true) (hp : PreS s H Pc As)
    (hg : g.method = m) (hn : As.length = n) (hsize : g.locals.size = nL) (hstack : g.stack = As.reverse ++ rest) (hW : 2 * g.monitorRoom + (rest.map fun v => v.category).sum ≤ 8) (hdg : decode cc g.pc = .ok (.invokestatic index, 3)) (hf : cells + mc ≤ R.cells ∧ slots + ms ≤ R.slots) :
    vx_Run p l e R s m args below meth c H locs cells slots mc ms g rest (Qc As.toArray) XC free := by
  have hK : vx_Back l R p e below s args y 3 8 (PreOf R mc ms Pc) (PostOf Qc mc ms free) (vx_Post XC mc ms free) := vx_callBack cw.1 hM hp.1
  obtain ⟨⟨-, -, -, -, -, -, hcode, hini, hy, hlen, hl⟩, hstt⟩ := cw
  obtain ⟨hx, hb, hml, ho, -⟩ := S
  intro T hT X
  rcases vx_callS X hx (bytes := bytes) (maxL := maxL) (ret := ret) ho hl hstt hini hcode hy hK hg (hsize.trans hml.symm) (argsL := As) (rest := rest) (fun sig h => hn.trans (hlen sig h)) hstack hW (by rw [hb]; exact hdg)
    (fun vm₁ hW₁ => ⟨hf.1, hf.2, hp.2 (T.setVm vm₁) hT hW₁⟩) with ⟨v, vm₁, ⟨U', l2, c2, s2⟩, hW₁, X', ⟨g', mk, t, L, e1, e2, hq, h1, hL, h2, h3⟩, st⟩ | ⟨q, vm₁, ⟨U', l2, c2, s2⟩, hW₁, X', ⟨g', mk, t, L, E, ce, e1, e2, hq, hce, hcv, hcl, h1, hL, h2, h3⟩, st⟩
  · dsimp only [Pt.U, Pt.locs, Pt.cells, Pt.slots] at X' e1 e2 h1 h2 h3 st
    subst h1; subst h2; subst h3
    exact Or.inl ⟨v, (T.setVm vm₁).calling g' mk As.toArray, t, U', L, hT, X', hL, e1, e2, hq, st⟩
  · dsimp only [Pt.U, Pt.locs, Pt.cells, Pt.slots] at X' e1 e2 h1 h2 h3 st hcl
    subst h1; subst h2; subst h3
    exact Or.inr ⟨q, (T.setVm vm₁).calling g' mk As.toArray, t, U', L, E, ce, hT, X', hL, e1, e2, hq, hce, hcv, vx_cls hW₁ hcl, st⟩
end Runs
section Rows
variable {p : Program} {l : Launch} {e : Env} {R : Room} {s : State} {m : MethodId} {args : Array Value} {below : List Frame} {meth : Method} {c : Code} {H : Heap} {locs : List Loc} {cells slots : Nat} {Q : State → Prop}
variable {mc ms : Nat} {free : Addr → Prop} {A0 A1 : Nat → Prop} {H0 : Heap} {a : Array Value} {pc : Nat} {ls : Array Slot} {st0 rest : List Value}
theorem vx_keep {st₀ t T' : State} {L : List Loc} (h0 : st₀.heap = H) (e1 : T'.heap = t.heap) (hS : va_S A0 H0 H locs) (hA : ∀ q, q < H.size → A1 q → A0 q) (hf : ∀ q, free q → A0 q) (hL : ∀ q ∈ L, free q.base) (hF : va_F A1 st₀ t) :
    H.size ≤ T'.heap.size ∧ (∀ q : Nat, q < H.size → ¬ A1 q → T'.heap[q]? = H[q]?) ∧ va_S A0 H0 T'.heap (locs ++ L) := by
  obtain ⟨hz, hk⟩ := hF
  rw [h0] at hz hk
  exact ⟨by rw [e1]; exact hz, fun q h1 h2 => by rw [e1]; exact hk q h1 h2,
    ⟨Nat.le_trans hS.1 (by rw [e1]; exact hz), fun q h1 h2 => by rw [e1, hk q (Nat.lt_of_lt_of_le h1 hS.1) (fun z => h2 (hA q (Nat.lt_of_lt_of_le h1 hS.1) z))]; exact hS.2.1 q h1 h2, fun q hq => by
      rcases List.mem_append.mp hq with h | h
      · exact hS.2.2 q h
      · exact hf _ (hL q h)⟩⟩
theorem vx_calli {S SX : Type} {post : Int32 → S → Prop} {px : SX → Prop} {B : S → State → Prop} {BX : String → SX → State → Prop} {AX : Nat → Prop} (hr : vx_Run p l e R s m args below meth c H locs cells slots mc ms (F0 m pc ls st0) rest (va_Qi post B A1 a) (vx_X px BX AX) free) (hS : va_S A0 H0 H locs) (hA : ∀ q, q < H.size → A1 q → A0 q) (hf : ∀ q, free q → A0 q) (hAX : ∀ q, q < H.size → AX q → A0 q)
    (kx : ∀ (E : String) (ce : Cell) (q9 : Addr) (u : SX) (t : State) (H1 : Heap) (locs1 : List Loc), t.heap = H1 → s.vm.Alike t.vm → px u → BX E u t → H.size ≤ H1.size → (∀ q : Nat, q < H.size → ¬ AX q → H1[q]? = H[q]?) → va_S A0 H0 H1 locs1 → H1[q9]? = some ce → ce.vm = .none → s.vm.findClass E = some ce.cls → vx_W p l e R s m args below meth c H1 locs1 (cells + mc) (slots + ms) Q (F0 m pc ls rest) q9)
    (kk : ∀ (r : Int32) (u : S) (t : State) (H1 : Heap) (locs1 : List Loc), t.heap = H1 → s.vm.Alike t.vm → post r u → B u t → H.size ≤ H1.size → (∀ q : Nat, q < H.size → ¬ A1 q → H1[q]? = H[q]?) → va_S A0 H0 H1 locs1 → W p l e R s m args below meth c H1 locs1 (cells + mc) (slots + ms) Q (F0 m (pc + 3) ls (.int r :: rest))) : W p l e R s m args below meth c H locs cells slots Q (F0 m pc ls st0) := by
  intro T hT X
  rcases hr T hT X with ⟨v, st₀, t, T', L, h0, X', hL, e1, e2, ⟨⟨r, u, hv, hp, hb⟩, hF⟩, st⟩ | ⟨q, st₀, t, T', L, E, ce, h0, X', hL, e1, e2, ⟨u, hp, hb, hF⟩, hce, hcv, hcl, st⟩
  · cases hv
    obtain ⟨k1, k2, k3⟩ := vx_keep h0 e1 hS hA hf hL hF
    obtain ⟨t2, a1, b1⟩ := kk r u t T'.heap (locs ++ L) e1.symm (by rw [← e2]; exact X'.warmed.alike) hp hb k1 k2 k3 T' rfl X'
    exact ⟨t2, st t2 a1, b1⟩
  · obtain ⟨k1, k2, k3⟩ := vx_keep h0 e1 hS hAX hf hL hF
    obtain ⟨t2, a1, b1⟩ := kx E ce q u t T'.heap (locs ++ L) e1.symm (by rw [← e2]; exact X'.warmed.alike) hp hb k1 k2 k3 (by rw [e1]; exact hce) hcv hcl T' rfl X'
    exact ⟨t2, st.trans a1, b1⟩
theorem vx_calll {S SX : Type} {post : Int64 → S → Prop} {px : SX → Prop} {B : S → State → Prop} {BX : String → SX → State → Prop} {AX : Nat → Prop} (hr : vx_Run p l e R s m args below meth c H locs cells slots mc ms (F0 m pc ls st0) rest (va_Ql post B A1 a) (vx_X px BX AX) free) (hS : va_S A0 H0 H locs) (hA : ∀ q, q < H.size → A1 q → A0 q) (hf : ∀ q, free q → A0 q) (hAX : ∀ q, q < H.size → AX q → A0 q)
    (kx : ∀ (E : String) (ce : Cell) (q9 : Addr) (u : SX) (t : State) (H1 : Heap) (locs1 : List Loc), t.heap = H1 → s.vm.Alike t.vm → px u → BX E u t → H.size ≤ H1.size → (∀ q : Nat, q < H.size → ¬ AX q → H1[q]? = H[q]?) → va_S A0 H0 H1 locs1 → H1[q9]? = some ce → ce.vm = .none → s.vm.findClass E = some ce.cls → vx_W p l e R s m args below meth c H1 locs1 (cells + mc) (slots + ms) Q (F0 m pc ls rest) q9)
    (kk : ∀ (r : Int64) (u : S) (t : State) (H1 : Heap) (locs1 : List Loc), t.heap = H1 → s.vm.Alike t.vm → post r u → B u t → H.size ≤ H1.size → (∀ q : Nat, q < H.size → ¬ A1 q → H1[q]? = H[q]?) → va_S A0 H0 H1 locs1 → W p l e R s m args below meth c H1 locs1 (cells + mc) (slots + ms) Q (F0 m (pc + 3) ls (.long r :: rest))) : W p l e R s m args below meth c H locs cells slots Q (F0 m pc ls st0) := by
  intro T hT X
  rcases hr T hT X with ⟨v, st₀, t, T', L, h0, X', hL, e1, e2, ⟨⟨r, u, hv, hp, hb⟩, hF⟩, st⟩ | ⟨q, st₀, t, T', L, E, ce, h0, X', hL, e1, e2, ⟨u, hp, hb, hF⟩, hce, hcv, hcl, st⟩
  · cases hv
    obtain ⟨k1, k2, k3⟩ := vx_keep h0 e1 hS hA hf hL hF
    obtain ⟨t2, a1, b1⟩ := kk r u t T'.heap (locs ++ L) e1.symm (by rw [← e2]; exact X'.warmed.alike) hp hb k1 k2 k3 T' rfl X'
    exact ⟨t2, st t2 a1, b1⟩
  · obtain ⟨k1, k2, k3⟩ := vx_keep h0 e1 hS hAX hf hL hF
    obtain ⟨t2, a1, b1⟩ := kx E ce q u t T'.heap (locs ++ L) e1.symm (by rw [← e2]; exact X'.warmed.alike) hp hb k1 k2 k3 (by rw [e1]; exact hce) hcv hcl T' rfl X'
    exact ⟨t2, st.trans a1, b1⟩
theorem vx_callf {S SX : Type} {post : UInt32 → S → Prop} {px : SX → Prop} {B : S → State → Prop} {BX : String → SX → State → Prop} {AX : Nat → Prop} (hr : vx_Run p l e R s m args below meth c H locs cells slots mc ms (F0 m pc ls st0) rest (va_Qf post B A1 a) (vx_X px BX AX) free) (hS : va_S A0 H0 H locs) (hA : ∀ q, q < H.size → A1 q → A0 q) (hf : ∀ q, free q → A0 q) (hAX : ∀ q, q < H.size → AX q → A0 q)
    (kx : ∀ (E : String) (ce : Cell) (q9 : Addr) (u : SX) (t : State) (H1 : Heap) (locs1 : List Loc), t.heap = H1 → s.vm.Alike t.vm → px u → BX E u t → H.size ≤ H1.size → (∀ q : Nat, q < H.size → ¬ AX q → H1[q]? = H[q]?) → va_S A0 H0 H1 locs1 → H1[q9]? = some ce → ce.vm = .none → s.vm.findClass E = some ce.cls → vx_W p l e R s m args below meth c H1 locs1 (cells + mc) (slots + ms) Q (F0 m pc ls rest) q9)
    (kk : ∀ (r : UInt32) (u : S) (t : State) (H1 : Heap) (locs1 : List Loc), t.heap = H1 → s.vm.Alike t.vm → post r u → B u t → H.size ≤ H1.size → (∀ q : Nat, q < H.size → ¬ A1 q → H1[q]? = H[q]?) → va_S A0 H0 H1 locs1 → W p l e R s m args below meth c H1 locs1 (cells + mc) (slots + ms) Q (F0 m (pc + 3) ls (.float r :: rest))) : W p l e R s m args below meth c H locs cells slots Q (F0 m pc ls st0) := by
  intro T hT X
  rcases hr T hT X with ⟨v, st₀, t, T', L, h0, X', hL, e1, e2, ⟨⟨r, u, hv, hp, hb⟩, hF⟩, st⟩ | ⟨q, st₀, t, T', L, E, ce, h0, X', hL, e1, e2, ⟨u, hp, hb, hF⟩, hce, hcv, hcl, st⟩
  · cases hv
    obtain ⟨k1, k2, k3⟩ := vx_keep h0 e1 hS hA hf hL hF
    obtain ⟨t2, a1, b1⟩ := kk r u t T'.heap (locs ++ L) e1.symm (by rw [← e2]; exact X'.warmed.alike) hp hb k1 k2 k3 T' rfl X'
    exact ⟨t2, st t2 a1, b1⟩
  · obtain ⟨k1, k2, k3⟩ := vx_keep h0 e1 hS hAX hf hL hF
    obtain ⟨t2, a1, b1⟩ := kx E ce q u t T'.heap (locs ++ L) e1.symm (by rw [← e2]; exact X'.warmed.alike) hp hb k1 k2 k3 (by rw [e1]; exact hce) hcv hcl T' rfl X'
    exact ⟨t2, st.trans a1, b1⟩
theorem vx_calld {S SX : Type} {post : UInt64 → S → Prop} {px : SX → Prop} {B : S → State → Prop} {BX : String → SX → State → Prop} {AX : Nat → Prop} (hr : vx_Run p l e R s m args below meth c H locs cells slots mc ms (F0 m pc ls st0) rest (va_Qd post B A1 a) (vx_X px BX AX) free) (hS : va_S A0 H0 H locs) (hA : ∀ q, q < H.size → A1 q → A0 q) (hf : ∀ q, free q → A0 q) (hAX : ∀ q, q < H.size → AX q → A0 q)
    (kx : ∀ (E : String) (ce : Cell) (q9 : Addr) (u : SX) (t : State) (H1 : Heap) (locs1 : List Loc), t.heap = H1 → s.vm.Alike t.vm → px u → BX E u t → H.size ≤ H1.size → (∀ q : Nat, q < H.size → ¬ AX q → H1[q]? = H[q]?) → va_S A0 H0 H1 locs1 → H1[q9]? = some ce → ce.vm = .none → s.vm.findClass E = some ce.cls → vx_W p l e R s m args below meth c H1 locs1 (cells + mc) (slots + ms) Q (F0 m pc ls rest) q9)
    (kk : ∀ (r : UInt64) (u : S) (t : State) (H1 : Heap) (locs1 : List Loc), t.heap = H1 → s.vm.Alike t.vm → post r u → B u t → H.size ≤ H1.size → (∀ q : Nat, q < H.size → ¬ A1 q → H1[q]? = H[q]?) → va_S A0 H0 H1 locs1 → W p l e R s m args below meth c H1 locs1 (cells + mc) (slots + ms) Q (F0 m (pc + 3) ls (.double r :: rest))) : W p l e R s m args below meth c H locs cells slots Q (F0 m pc ls st0) := by
  intro T hT X
  rcases hr T hT X with ⟨v, st₀, t, T', L, h0, X', hL, e1, e2, ⟨⟨r, u, hv, hp, hb⟩, hF⟩, st⟩ | ⟨q, st₀, t, T', L, E, ce, h0, X', hL, e1, e2, ⟨u, hp, hb, hF⟩, hce, hcv, hcl, st⟩
  · cases hv
    obtain ⟨k1, k2, k3⟩ := vx_keep h0 e1 hS hA hf hL hF
    obtain ⟨t2, a1, b1⟩ := kk r u t T'.heap (locs ++ L) e1.symm (by rw [← e2]; exact X'.warmed.alike) hp hb k1 k2 k3 T' rfl X'
    exact ⟨t2, st t2 a1, b1⟩
  · obtain ⟨k1, k2, k3⟩ := vx_keep h0 e1 hS hAX hf hL hF
    obtain ⟨t2, a1, b1⟩ := kx E ce q u t T'.heap (locs ++ L) e1.symm (by rw [← e2]; exact X'.warmed.alike) hp hb k1 k2 k3 (by rw [e1]; exact hce) hcv hcl T' rfl X'
    exact ⟨t2, st.trans a1, b1⟩
theorem vx_callv {S SX : Type} {post : S → Prop} {px : SX → Prop} {B : S → State → Prop} {BX : String → SX → State → Prop} {AX : Nat → Prop} (hr : vx_Run p l e R s m args below meth c H locs cells slots mc ms (F0 m pc ls st0) rest (va_Qv post B A1 a) (vx_X px BX AX) free) (hS : va_S A0 H0 H locs) (hA : ∀ q, q < H.size → A1 q → A0 q) (hf : ∀ q, free q → A0 q) (hAX : ∀ q, q < H.size → AX q → A0 q)
    (kx : ∀ (E : String) (ce : Cell) (q9 : Addr) (u : SX) (t : State) (H1 : Heap) (locs1 : List Loc), t.heap = H1 → s.vm.Alike t.vm → px u → BX E u t → H.size ≤ H1.size → (∀ q : Nat, q < H.size → ¬ AX q → H1[q]? = H[q]?) → va_S A0 H0 H1 locs1 → H1[q9]? = some ce → ce.vm = .none → s.vm.findClass E = some ce.cls → vx_W p l e R s m args below meth c H1 locs1 (cells + mc) (slots + ms) Q (F0 m pc ls rest) q9)
    (kk : ∀ (u : S) (t : State) (H1 : Heap) (locs1 : List Loc), t.heap = H1 → s.vm.Alike t.vm → post u → B u t → H.size ≤ H1.size → (∀ q : Nat, q < H.size → ¬ A1 q → H1[q]? = H[q]?) → va_S A0 H0 H1 locs1 → W p l e R s m args below meth c H1 locs1 (cells + mc) (slots + ms) Q (F0 m (pc + 3) ls (rest))) : W p l e R s m args below meth c H locs cells slots Q (F0 m pc ls st0) := by
  intro T hT X
  rcases hr T hT X with ⟨v, st₀, t, T', L, h0, X', hL, e1, e2, ⟨⟨u, hv, hp, hb⟩, hF⟩, st⟩ | ⟨q, st₀, t, T', L, E, ce, h0, X', hL, e1, e2, ⟨u, hp, hb, hF⟩, hce, hcv, hcl, st⟩
  · cases hv
    obtain ⟨k1, k2, k3⟩ := vx_keep h0 e1 hS hA hf hL hF
    obtain ⟨t2, a1, b1⟩ := kk u t T'.heap (locs ++ L) e1.symm (by rw [← e2]; exact X'.warmed.alike) hp hb k1 k2 k3 T' rfl X'
    exact ⟨t2, st t2 a1, b1⟩
  · obtain ⟨k1, k2, k3⟩ := vx_keep h0 e1 hS hAX hf hL hF
    obtain ⟨t2, a1, b1⟩ := kx E ce q u t T'.heap (locs ++ L) e1.symm (by rw [← e2]; exact X'.warmed.alike) hp hb k1 k2 k3 (by rw [e1]; exact hce) hcv hcl T' rfl X'
    exact ⟨t2, st.trans a1, b1⟩
/-- caught by the row x of this method's table; the rows ahead don't take it -/
theorem vx_catch {own name : String} {E : String} {ce : Cell} {q : Addr} (hown : s.vm.findClass own = some m.cls) (pre : List ExceptionTableEntry) (x : ExceptionTableEntry) (suf : List ExceptionTableEntry) (hsplit : c.exceptionTable.toList = pre ++ x :: suf)
    (hpass : ∀ z ∈ pre, covers z pc = false ∨ (z.catchType ≠ 0 ∧ ∃ nm : String, (Cond.classLink own z.catchType nm).before args s = true ∧ va_Nc E nm s)) (hx : covers x pc = true) (h0 : x.catchType ≠ 0)
    (hlink : (Cond.classLink own x.catchType name).before args s = true) (hcast : (Cond.castable E name).before args s = true) (hcell : H[q]? = some ce) (hv : ce.vm = .none) (hcl : s.vm.findClass E = some ce.cls)
    (kk : W p l e R s m args below meth c H locs cells slots Q (F0 m x.handlerPc ls [.ref q])) : vx_W p l e R s m args below meth c H locs cells slots Q (F0 m pc ls rest) q := by
  intro T hT X
  have hpl : e.platform.magicAccessors = ({} : Platform).magicAccessors := by rw [X.admits.platform]
  obtain ⟨c3, c4, hc3, hc4, hasg⟩ := Cond.castable_spec hcast
  cases Option.some.inj (hc3.symm.trans hcl)
  obtain ⟨c5, hc5, hcl5⟩ := Cond.classLink_spec hown hlink e.platform hpl
  cases Option.some.inj (hc4.symm.trans hc5)
  obtain ⟨vm', X', st⟩ := X.thenCaughtThrough q (g := F0 m pc ls rest) rfl (Steps.refl _) (by rw [hT]; exact hcell) (by rw [hv]; rfl) (by obtain ⟨k9, h9, -⟩ := Vm.findClass_spec hcl; exact ⟨k9, h9⟩) pre x suf hsplit
    (fun z hz => by
      rcases hpass z hz with h | ⟨hz0, nm, hl1, hn1⟩
      · exact Or.inl h
      · obtain ⟨c6, hc6, hcl6⟩ := Cond.classLink_spec hown hl1 e.platform hpl
        obtain ⟨a8, b8, h1, h2, h3⟩ := hn1
        cases Option.some.inj (h1.symm.trans hcl)
        cases Option.some.inj (h2.symm.trans hc6)
        exact Or.inr ⟨hz0, _, hcl6, h3⟩) hx (Or.inr ⟨h0, c4, hcl5, hasg⟩)
  obtain ⟨t, a1, b1⟩ := kk (T.setVm vm') hT X'
  exact ⟨t, st.trans a1, b1⟩
end Rows
section Ends
variable {p : Program} {l : Launch} {e : Env} {R : Room} {s : State} {m : MethodId} {args : Array Value} {below : List Frame} {meth : Method} {c : Code} {H : Heap} {locs : List Loc} {cells slots : Nat} {Q : State → Prop}
variable {mc ms : Nat} {free : Addr → Prop} {A0 A1 : Nat → Prop} {H0 : Heap} {a : Array Value} {ls : Array Slot} {st0 rest : List Value}
variable {Qc : Array Value → State → Outcome → State → Prop} {XC : String → State → State → Prop}
/-- what a body that may throw owes at its end -/
def vx_MQ (below : List Frame) (Qc : Array Value → State → Outcome → State → Prop) (XC : String → State → State → Prop) (a : Array Value) (s : State) (mc ms : Nat) (free : Addr → Prop) : State → Prop := fun t =>
  ∃ o, t.status = .running ∧ Ended t below o ∧ vx_Q Qc XC mc ms free a s o t
theorem vx_ret {g : JFrame} {mc ms : Nat} (k : W p l e R s m args below meth c H locs cells slots (MQ below Qc args s mc ms free) g) : W p l e R s m args below meth c H locs cells slots (vx_MQ below Qc XC args s mc ms free) g := by
  intro T hT X
  obtain ⟨t, a1, o, b1, b2, b3, b4⟩ := k T hT X
  exact ⟨t, a1, o, b1, b2, Or.inl ⟨b3, b4⟩⟩
/-- not caught here: it goes on to the caller -/
theorem vx_widen {g : JFrame} {q : Addr} {k n : Nat} (h1 : cells ≤ k) (h2 : slots ≤ n) (kk : vx_W p l e R s m args below meth c H locs k n Q g q) : vx_W p l e R s m args below meth c H locs cells slots Q g q := fun T hT X => kk T hT (stand_widen X h1 h2)
theorem vx_out {pc : Nat} {E : String} {ce : Cell} {q : Addr} {mc ms : Nat} (hout : ∀ x ∈ c.exceptionTable.toList, covers x pc = false) (hlocks : meth.locks = false) (hcell : H[q]? = some ce) (hv : ce.vm = .none) (hcl : s.vm.findClass E = some ce.cls)
    (hx : ∀ t : State, t.heap = H → s.vm.Alike t.vm → XC E s t) (hf : ∀ z ∈ locs, free z.base) (hc : cells ≤ mc) (hs : slots ≤ ms) :
    vx_W p l e R s m args below meth c H locs cells slots (vx_MQ below Qc XC args s mc ms free) (F0 m pc ls rest) q := by
  intro T hT X
  obtain ⟨st1, hrun, hend, hW, hsm⟩ := X.leaveThrown q (g := F0 m pc ls rest) rfl rfl rfl hout hlocks
  have hcell9 : (T.setFrames (.throwing q :: below)).heap[q]? = some ce := by
    show T.heap[q]? = some ce
    rw [hT]; exact hcell
  exact ⟨_, st1, .threw q, hrun, hend, Or.inr ⟨q, rfl, E, ce, locs, hx _ hT hW.alike, hcell9, hv, hcl, hW, hsm.mono hc hs, hf⟩⟩
theorem vx_frame {U : State} {k n : Nat} (h : s.sameButNew ({ U with vm := s.vm } : State) locs k n) : s.heap.size ≤ U.heap.size ∧ ∀ q : Nat, q < s.heap.size → (∀ z ∈ locs, z.base ≠ q) → U.heap[q]? = s.heap[q]? := by
  obtain ⟨-, h2, -, -, -, h6⟩ := h
  refine ⟨h2, fun q hq hz => ?_⟩
  obtain ⟨c9, e1, e2, e3, e4⟩ := h6 q _ (Array.getElem?_eq_getElem hq)
  have hs : c9.slots = (s.heap[q]).slots := Array.ext_getElem? fun i => e4 i fun hm => hz _ hm rfl
  have h9 : c9 = s.heap[q] := by
    rw [hs] at e2
    exact e2
  have e5 : U.heap[q]? = some c9 := e1
  rw [e5, h9, Array.getElem?_eq_getElem hq]
/-- the words of a throw but the four that speak of the heap -/
def vx_no (w : Cond) : Bool := decide (w ≠ .isRef (.static Bundle.tN "UNASSIGNED_STACK" Bundle.steD)) && decide (w ≠ .isRef (.static Bundle.tN "SUPPRESSED_SENTINEL" Bundle.listD)) && decide (w ≠ .laysStatic Bundle.tN "UNASSIGNED_STACK" Bundle.steD) && decide (w ≠ .laysStatic Bundle.tN "SUPPRESSED_SENTINEL" Bundle.listD)
def vx_at0 (own : String) (ic : Nat) (X : String) (names : List String) : List Cond := (Bundle.ownAtoms0 own ic X names).filter vx_no
def vx_atS (own : String) (ic : Nat) (X : String) (names : List String) : List Cond := (Bundle.ownAtoms own ic X names).filter vx_no
/-- a word that the tables alone decide, or a good one -/
def vx_ot (w : Cond) : Bool := w.onTables || goodWord w
theorem vx_ot_at {args a' : Array Value} {s U : State} {w : Cond} (hW : s.WarmedH U.vm) (hvm : s.vm = U.vm) (hg : vx_ot w = true) (h : w.before args s = true) : w.before a' U = true := by
  simp only [vx_ot, Bool.or_eq_true] at hg
  rcases hg with hg | hg
  · exact va_tabs hg hvm h
  · exact word_at hW (good_of_word hg) h
/-- a list's words: the good ones out of the method's own list, the others by premises of their own -/
theorem vx_hat {args : Array Value} {s : State} {L B : List Cond} (h1 : ∀ w ∈ L.filter goodWord, w.before args s = true) (h2 : ∀ w ∈ L.filter (fun w => !goodWord w), w ∈ B) (h3 : ∀ w ∈ B, w.before args s = true) : ∀ w ∈ L, w.before args s = true := by
  intro w hw
  by_cases g : goodWord w = true
  · exact h1 w (List.mem_filter.mpr ⟨hw, g⟩)
  · refine h3 w (h2 w (List.mem_filter.mpr ⟨hw, ?_⟩))
    show (!goodWord w) = true
    cases hgw : goodWord w
    · rfl
    · exact absurd hgw g
theorem vx_c {args : Array Value} {s : State} {w : Cond} {B : List Cond} (h : w.before args s = true) (t : ∀ w ∈ B, w.before args s = true) : ∀ w' ∈ w :: B, w'.before args s = true := fun w' h' => (List.mem_cons.mp h').elim (fun e => by rw [e]; exact h) (t w')
theorem vx_n {args : Array Value} {s : State} : ∀ w ∈ ([] : List Cond), w.before args s = true := fun _ h => nomatch h
theorem vx_own {args : Array Value} {s : State} {L : List Cond} (h1 : ∀ w ∈ L.filter vx_no, w.before args s = true)
    (hU : (Cond.isRef (.static Bundle.tN "UNASSIGNED_STACK" Bundle.steD)).before args s = true) (hN : (Cond.isRef (.static Bundle.tN "SUPPRESSED_SENTINEL" Bundle.listD)).before args s = true)
    (lU : (Cond.laysStatic Bundle.tN "UNASSIGNED_STACK" Bundle.steD).before args s = true) (lN : (Cond.laysStatic Bundle.tN "SUPPRESSED_SENTINEL" Bundle.listD).before args s = true) : ∀ w ∈ L, w.before args s = true := by
  intro w hw
  by_cases e1 : w = .isRef (.static Bundle.tN "UNASSIGNED_STACK" Bundle.steD)
  · rw [e1]; exact hU
  · by_cases e2 : w = .isRef (.static Bundle.tN "SUPPRESSED_SENTINEL" Bundle.listD)
    · rw [e2]; exact hN
    · by_cases e3 : w = .laysStatic Bundle.tN "UNASSIGNED_STACK" Bundle.steD
      · rw [e3]; exact lU
      · by_cases e4 : w = .laysStatic Bundle.tN "SUPPRESSED_SENTINEL" Bundle.listD
        · rw [e4]; exact lN
        · exact h1 w (List.mem_filter.mpr ⟨hw, by unfold vx_no; rw [decide_eq_true e1, decide_eq_true e2, decide_eq_true e3, decide_eq_true e4]; rfl⟩)
/-- where a static field lies, its class's statics cell in H -/
def vx_L (C n d : String) (A : Nat → Prop) (U : State) (H : Heap) : Prop := ∃ (c : ClassId) (k : Class) (i : Nat) (f : Field) (a : Nat) (cell : Cell), U.vm.findClass C = some c ∧ U.fieldFound? C n d = some (c, k, i, f) ∧ f.isStatic = true ∧ k.statics = some a ∧ H[a]? = some cell ∧ cell.vm.isStatics = true ∧ cell.cls = c ∧ f.slot < cell.slots.size ∧ k.staticTypes[f.slot]? = some f.type ∧ ¬ A a
theorem vx_L.moved {C n d : String} {A : Nat → Prop} {u U : State} {H : Heap} (hvm : u.vm.Alike U.vm) (h : vx_L C n d A u H) : vx_L C n d A U H := by
  obtain ⟨c, k, i, f, a, cell, h1, h2, h3, h4, h5, h6, h7, h8, h9, h10⟩ := h
  obtain ⟨k', hi', he⟩ := State.fieldFound?_setVm hvm h2
  exact ⟨c, k', i, f, a, cell, by rw [hvm.findClass]; exact h1, hi', h3, by rw [he]; exact h4, h5, h6, h7, h8, by rw [he]; exact h9, h10⟩
theorem vx_L.kept {C n d : String} {A : Nat → Prop} {U : State} {H H1 : Heap} (h : vx_L C n d A U H) (hq : ∀ a : Nat, a < H.size → ¬ A a → H1[a]? = H[a]?) : vx_L C n d A U H1 := by
  obtain ⟨c, k, i, f, a, cell, h1, h2, h3, h4, h5, h6, h7, h8, h9, h10⟩ := h
  exact ⟨c, k, i, f, a, cell, h1, h2, h3, h4, by rw [hq a (Array.getElem?_eq_some_iff.mp h5).1 h10]; exact h5, h6, h7, h8, h9, h10⟩
theorem vx_L.narrow {C n d : String} {A B : Nat → Prop} {U : State} {H : Heap} (h : vx_L C n d A U H) (hAB : ∀ q, B q → A q) : vx_L C n d B U H := by
  obtain ⟨c, k, i, f, a, cell, h1, h2, h3, h4, h5, h6, h7, h8, h9, h10⟩ := h
  exact ⟨c, k, i, f, a, cell, h1, h2, h3, h4, h5, h6, h7, h8, h9, fun z => h10 (hAB _ z)⟩
theorem vx_L.word {C n d : String} {A : Nat → Prop} {s : State} {args : Array Value} (h : vx_L C n d A s s.heap) : (Cond.laysStatic C n d).before args s = true := by
  obtain ⟨c, k, i, f, a, cell, h1, h2, h3, h4, h5, h6, h7, h8, h9, -⟩ := h
  show (Cond.laysStatic C n d).holds args s none s [] = true
  exact Cond.laysStatic_of h1 h2 h3 h4 h5 h6 h7 h8 h9
/-- .. and what it holds: null or some reference -/
def vx_Zq (C n d : String) (A : Nat → Prop) (U : State) (H : Heap) : Prop := va_Zq C n d A U H ∧ vx_L C n d A U H
theorem vx_Zq.moved {C n d : String} {A : Nat → Prop} {u U : State} {H : Heap} (hvm : u.vm.Alike U.vm) (h : vx_Zq C n d A u H) : vx_Zq C n d A U H := ⟨va_Zq.moved hvm h.1, vx_L.moved hvm h.2⟩
theorem vx_Zq.kept {C n d : String} {A : Nat → Prop} {U : State} {H H1 : Heap} (h : vx_Zq C n d A U H) (hq : ∀ a : Nat, a < H.size → ¬ A a → H1[a]? = H[a]?) : vx_Zq C n d A U H1 := ⟨va_Zq.kept h.1 hq, vx_L.kept h.2 hq⟩
theorem vx_Zq.narrow {C n d : String} {A B : Nat → Prop} {U : State} {H : Heap} (h : vx_Zq C n d A U H) (hAB : ∀ q, B q → A q) : vx_Zq C n d B U H := ⟨va_Zq.narrow h.1 hAB, vx_L.narrow h.2 hAB⟩
theorem vx_Zqof {args : Array Value} {s : State} {C n d : String} {A : Nat → Prop} (hl : (Cond.laysStatic C n d).before args s = true) (hini : (Cond.initialized C).before args s = true) (h : (Cond.isRef (.static C n d)).before args s = true) (hA : ∀ a : Nat, a < s.heap.size → ¬ A a) : vx_Zq C n d A s s.heap := by
  refine ⟨va_Zqof hl hini h hA, ?_⟩
  obtain ⟨c, k, i, f, a, cell, h1, h2, h3, h4, h5, h6, h7, h8, h9⟩ := Cond.laysStatic_spec hl
  exact ⟨c, k, i, f, a, cell, h1, h2, h3, h4, h5, h6, h7, h8, h9, hA a (Array.getElem?_eq_some_iff.mp h5).1⟩
theorem vx_isRef {C n d : String} {v : Value} {A : Nat → Prop} {s : State} {args : Array Value} (h : va_Z C n d v A s s.heap) (hv : v.isRef = true) : (Cond.isRef (.static C n d)).before args s = true := by
  obtain ⟨cf, kf, fi, f, a, cell, h1, h2, h3, h4, h5, h6, h7, -⟩ := h
  have he : (Term.static C n d).eval args s none [] s = some v := by
    simp [Term.eval, State.fieldNamed?, h1, h2, h4, h5, h6, h7]
  simp only [Cond.before, Cond.holds, Cond.value, he]
  cases v <;> simp_all [Value.isRef]
theorem vx_isRefq {C n d : String} {A : Nat → Prop} {s : State} {args : Array Value} (h : va_Zq C n d A s s.heap) : (Cond.isRef (.static C n d)).before args s = true := by
  rcases h with h | ⟨t, h⟩
  · exact vx_isRef h rfl
  · exact vx_isRef h rfl
/-- the same frame, seen from here: as if the method were called anew in this heap -/
theorem vx_rebase {T : State} (X : Stand p l e R s m args below meth c T locs cells slots) {R' : Room} (hf : R'.frames ≤ R.frames) (hl : R'.locals ≤ R.locals) (hc : cells + R'.cells ≤ R.cells) (hs : slots + R'.slots ≤ R.slots) :
    Stand p l e R' ((T.setVm s.vm).setFrames (.invoking m args :: below)) m args below meth c T [] 0 0 := by
  have htop : (T.setVm s.vm).topJava?.isSome := X.here.top
  have hF : ((T.setVm s.vm).setFrames (.invoking m args :: below)).frames = .invoking m args :: below := State.frames_setFrames _ (State.cur_lt_of_top htop)
  obtain ⟨g₀, hg0⟩ := Option.isSome_iff_exists.mp htop
  obtain ⟨r, hr⟩ := State.topJava?_eq_some.mp hg0
  have hl9 : e.platform.stackLimits (T.setVm s.vm).me = e.platform.stackLimits s.me := X.limits
  have hb9 : (T.setVm s.vm).me.stackBytes = s.me.stackBytes := X.bytes
  refine ⟨X.admits, X.cas, X.clock, hF, ?_, X.hears, X.method, X.code, X.here, X.tail, X.warmed, ?_, ?_, ?_⟩
  · have h := X.room
    have hU : ((T.setVm s.vm).setFrames (.invoking m args :: below)).localsInUse = s.localsInUse := by
      rw [State.localsInUse_invoking hF (meth := meth) (c := c) X.method X.code, State.localsInUse_invoking X.frames X.method X.code]
    simp only [State.hasRoom, Bool.and_eq_true, decide_eq_true_eq] at h ⊢
    obtain ⟨⟨⟨⟨h1, h2, h3, h4, h5, h6⟩, h7⟩, h8⟩, h9⟩ := h
    rw [X.frames, List.length_cons] at h2 h3
    have q1 := X.heapSize
    have q2 := X.used
    simp only [hF, hU, List.length_cons, State.stackLimits_setFrames, State.stackBytes_setFrames, hl9, hb9]
    refine ⟨⟨⟨⟨by omega, by omega, by omega, by omega, by omega, h6⟩, ?_⟩, ?_⟩, X.book⟩
    · show T.heap.size + R'.cells ≤ e.platform.maxCells
      omega
    · show T.slotsUsed + R'.slots ≤ e.platform.maxSlots
      omega
  · rw [State.stackLimits_setFrames]; rfl
  · rw [State.stackBytes_setFrames]; rfl
  · refine ⟨?_, Nat.le_refl _, Nat.le_refl _, ?_, ?_, fun a c9 h9 => ⟨c9, h9, rfl, rfl, fun _ _ => rfl⟩⟩
    · obtain ⟨t, ht, -⟩ := State.frames_cons hr
      show T.setVm s.vm = { ((T.setVm s.vm).setFrames (.invoking m args :: below)).setFrames (T.setVm s.vm).frames with heap := T.heap, slotsUsed := T.slotsUsed }
      rw [State.setFrames_setFrames, State.setFrames_self ht]
      rfl
    · show T.slotsUsed = T.slotsUsed + ((T.heap.toList.drop T.heap.size).map (·.slots.size)).sum
      rw [List.drop_eq_nil_of_le (Nat.le_of_eq Array.length_toList)]
      rfl
    · show ((T.heap.toList.drop T.heap.size).map (·.slots.size)).sum ≤ 0
      rw [List.drop_eq_nil_of_le (Nat.le_of_eq Array.length_toList)]
      exact Nat.le_refl _
/-- 'throw new E()': new; dup; invokespecial; athrow -/
theorem vx_throw0 {cc : ByteArray} {pc : Nat} (hexec : p.tables.exec = Jvm.exec) (hb : c.code = cc) (hl : l.stackTraces = false) {own cls : String} {names : List String} {ik ic mc ms : Nat} {A : Nat → Prop}
    (hown : s.vm.findClass own = some m.cls) (hcls : Bundle.fit cls = true) (hnames : ∀ n ∈ names, Bundle.fit n = true)
    (hk : (Cond.classLink own ik cls).before args s = true) (hini : (Cond.initialized cls).before args s = true) (hat : ∀ w ∈ vx_at0 own ic cls names, w.before args s = true)
    (hgood : ∀ w ∈ Cond.classLink own ik cls :: Cond.initialized cls :: vx_at0 own ic cls names, vx_ot w = true)
    (hU : vx_Zq Bundle.tN "UNASSIGNED_STACK" Bundle.steD A s s.heap) (hN : vx_Zq Bundle.tN "SUPPRESSED_SENTINEL" Bundle.listD A s s.heap) (hS : va_S A s.heap H locs) (hsize : ls.size = c.maxLocals)
    (d0 : decode cc pc = .ok (.new ik, 3)) (d3 : decode cc (pc + 3) = .ok (.dup, 1)) (d4 : decode cc (pc + 4) = .ok (.invokespecial ic, 3)) (d7 : decode cc (pc + 7) = .ok (.athrow, 1))
    (hout : ∀ x ∈ c.exceptionTable.toList, covers x (pc + 7) = false)
    (hRframes : names.length + 3 < R.frames) (hRlocals : (rest.map fun v => v.category).sum + (13 * (names.length + 1) + 42) ≤ R.locals) (hRcells : cells + 1 ≤ R.cells) (hRslots : slots + 6 ≤ R.slots) (hlocks : meth.locks = false)
    (hx : ∀ t : State, s.vm.Alike t.vm → H.size ≤ t.heap.size → (∀ q : Nat, q < H.size → t.heap[q]? = H[q]?) → XC cls s t)
    (hf : ∀ z ∈ locs, free z.base) (hc : cells + 1 ≤ mc) (hs : slots + 6 ≤ ms) :
    W p l e R s m args below meth c H locs cells slots (vx_MQ below Qc XC args s mc ms free) (F0 m pc ls rest) := by
  intro T hT X
  have htr : e.platform.stackTraces = false := (show e.platform.stackTraces = l.stackTraces by rw [X.admits.platform]).trans hl
  have Y := vx_rebase X (R' := { frames := R.frames, locals := R.locals, cells := 1, slots := 6 }) (Nat.le_refl _) (Nat.le_refl _) hRcells hRslots
  obtain ⟨s', hA⟩ : ∃ z, z = (T.setVm s.vm).setFrames (.invoking m args :: below) := ⟨_, rfl⟩
  rw [← hA] at Y
  have hvm : s'.vm = s.vm := by rw [hA]; rfl
  have hhp : s'.heap = H := by rw [hA]; exact hT
  have hW0 : s.WarmedH s'.vm := by rw [hvm]; exact State.WarmedH.refl s
  have hat' : ∀ w ∈ vx_at0 own ic cls names, w.before args s' = true := fun w hw => vx_ot_at hW0 hvm.symm (hgood w (List.mem_cons_of_mem _ (List.mem_cons_of_mem _ hw))) (hat w hw)
  have hk' : (Cond.classLink own ik cls).before args s' = true := vx_ot_at hW0 hvm.symm (hgood _ List.mem_cons_self) hk
  have hini' : (Cond.initialized cls).before args s' = true := vx_ot_at hW0 hvm.symm (hgood _ (List.mem_cons_of_mem _ List.mem_cons_self)) hini
  have hU' : vx_Zq Bundle.tN "UNASSIGNED_STACK" Bundle.steD A s' s'.heap := by rw [hhp]; exact vx_Zq.moved hW0.alike (hU.kept hS.2.1)
  have hN' : vx_Zq Bundle.tN "SUPPRESSED_SENTINEL" Bundle.listD A s' s'.heap := by rw [hhp]; exact vx_Zq.moved hW0.alike (hN.kept hS.2.1)
  have h : ∀ w ∈ Bundle.ownAtoms0 own ic cls names, w.before args s' = true := vx_own hat' (vx_isRefq hU'.1) (vx_isRefq hN'.1) hU'.2.word hN'.2.word
  have hown' : s'.vm.findClass own = some m.cls := by rw [hvm]; exact hown
  have hins : (Cond.instantiable cls 6).before args s' = true := h _ (by simp [Bundle.ownAtoms0])
  obtain ⟨vm₁, cX, kX, hfX, hkX, -, -, X₁, st1⟩ := Y.newCold hexec (own := own) (C := cls) (index := ik) (n := 6) hown' hk' hins hini'
    (g := F0 m pc ls rest) rfl (by rw [hb]; exact d0) (Nat.le_refl _) (Nat.le_refl _)
  generalize hT1 : (T.setVm vm₁).pushCell { cls := cX, slots := kX.instanceTypes.map defaultValue, vm := .none } = T1 at X₁ st1
  have hcat : (Value.ref T.heap.size).category = 1 := rfl
  have hcellA : T1.heap[T.heap.size]? = some (freshCell cX kX) := by rw [← hT1]; exact State.heap_pushCell_size _ _
  have d3' : decode c.code (pc + 3) = .ok (.dup, 1) := by rw [hb]; exact d3
  obtain ⟨U, hsteps, hrun, hend, hW, hsame, ce, hce, hO⟩ := X₁.ctorThrow0 hexec htr (own := own) (cls := cls) (names := names) (ic := ic) hown' hcls hnames h (fun x hx => nomatch hx) hfX hkX hcellA (by rw [hhp, hT]; exact Nat.le_refl _)
    (g := { method := m, pc := pc + 4, locals := ls, stack := .ref T.heap.size :: .ref T.heap.size :: rest, locked := none }) rfl hsize rfl rfl (rest := rest) rfl
    (by rw [hb]; exact d4) (by rw [hb]; exact d7) hout hRframes (by simp only [List.map_cons, List.sum_cons, hcat]; omega) hlocks
  obtain ⟨f1, f2⟩ := vx_frame hsame
  rw [hhp] at f1 f2
  have hWs : s.WarmedH U.vm := State.WarmedH.trans hW0 hW
  have hcl : s.vm.findClass cls = some ce.cls := by
    have h9 := hO.cls
    rw [hvm] at h9
    exact h9
  have hall : s.sameButNew ({ U with vm := s.vm } : State) locs mc ms := by
    subst hA
    obtain ⟨e1, e2⟩ := hsame
    rw [State.setFrames_setFrames] at e1
    have h2 : (T.setVm s.vm).sameButNew ({ U with vm := s.vm } : State) [] (0 + 1) (0 + 6) := ⟨e1, e2⟩
    have h3 := X.same.trans h2
    rw [List.append_nil] at h3
    exact h3.mono hc hs
  refine ⟨U, ?_, .threw T.heap.size, hrun, hend, Or.inr ⟨T.heap.size, rfl, cls, ce, locs, hx U hWs.alike f1 (fun q hq => f2 q hq (fun z hz => nomatch hz)), hce, hO.vm, hcl, hWs, hall, hf⟩⟩
  refine st1 _ ?_
  show Steps p.tables e below (T1.setTop { method := m, pc := pc + 3, locals := ls, stack := .ref T.heap.size :: rest, locked := none }) _
  jvm_step X₁.here [X₁.here.top, hexec, d3', Value.category]
  exact hsteps
/-- 'throw new E("text")': new; dup; ldc; invokespecial; athrow -/
theorem vx_throwS {cc : ByteArray} {pc : Nat} (hexec : p.tables.exec = Jvm.exec) (hb : c.code = cc) (hl : l.stackTraces = false) {own cls text : String} {names : List String} {ik is ic mc ms sa : Nat} {A : Nat → Prop}
    (hown : s.vm.findClass own = some m.cls) (hcls : Bundle.fit cls = true) (hnames : ∀ n ∈ names, Bundle.fit n = true)
    (hk : (Cond.classLink own ik cls).before args s = true) (hini : (Cond.initialized cls).before args s = true) (hstr : vk_R own is text sa s) (hat : ∀ w ∈ vx_atS own ic cls names, w.before args s = true)
    (hgood : ∀ w ∈ Cond.classLink own ik cls :: Cond.initialized cls :: vx_atS own ic cls names, vx_ot w = true)
    (hU : vx_Zq Bundle.tN "UNASSIGNED_STACK" Bundle.steD A s s.heap) (hN : vx_Zq Bundle.tN "SUPPRESSED_SENTINEL" Bundle.listD A s s.heap) (hS : va_S A s.heap H locs) (hsize : ls.size = c.maxLocals)
    (d0 : decode cc pc = .ok (.new ik, 3)) (d3 : decode cc (pc + 3) = .ok (.dup, 1)) (d4 : decode cc (pc + 4) = .ok (.ldc is, 2)) (d6 : decode cc (pc + 6) = .ok (.invokespecial ic, 3)) (d9 : decode cc (pc + 9) = .ok (.athrow, 1))
    (hout : ∀ x ∈ c.exceptionTable.toList, covers x (pc + 9) = false)
    (hRframes : names.length + 3 < R.frames) (hRlocals : (rest.map fun v => v.category).sum + (13 * (names.length + 1) + 43) ≤ R.locals) (hRcells : cells + 1 ≤ R.cells) (hRslots : slots + 6 ≤ R.slots) (hlocks : meth.locks = false)
    (hx : ∀ t : State, s.vm.Alike t.vm → H.size ≤ t.heap.size → (∀ q : Nat, q < H.size → t.heap[q]? = H[q]?) → XC cls s t)
    (hf : ∀ z ∈ locs, free z.base) (hc : cells + 1 ≤ mc) (hs : slots + 6 ≤ ms) :
    W p l e R s m args below meth c H locs cells slots (vx_MQ below Qc XC args s mc ms free) (F0 m pc ls rest) := by
  intro T hT X
  have htr : e.platform.stackTraces = false := (show e.platform.stackTraces = l.stackTraces by rw [X.admits.platform]).trans hl
  have Y := vx_rebase X (R' := { frames := R.frames, locals := R.locals, cells := 1, slots := 6 }) (Nat.le_refl _) (Nat.le_refl _) hRcells hRslots
  obtain ⟨s', hA⟩ : ∃ z, z = (T.setVm s.vm).setFrames (.invoking m args :: below) := ⟨_, rfl⟩
  rw [← hA] at Y
  have hvm : s'.vm = s.vm := by rw [hA]; rfl
  have hhp : s'.heap = H := by rw [hA]; exact hT
  have hW0 : s.WarmedH s'.vm := by rw [hvm]; exact State.WarmedH.refl s
  have hat' : ∀ w ∈ vx_atS own ic cls names, w.before args s' = true := fun w hw => vx_ot_at hW0 hvm.symm (hgood w (List.mem_cons_of_mem _ (List.mem_cons_of_mem _ hw))) (hat w hw)
  have hk' : (Cond.classLink own ik cls).before args s' = true := vx_ot_at hW0 hvm.symm (hgood _ List.mem_cons_self) hk
  have hini' : (Cond.initialized cls).before args s' = true := vx_ot_at hW0 hvm.symm (hgood _ (List.mem_cons_of_mem _ List.mem_cons_self)) hini
  have hU' : vx_Zq Bundle.tN "UNASSIGNED_STACK" Bundle.steD A s' s'.heap := by rw [hhp]; exact vx_Zq.moved hW0.alike (hU.kept hS.2.1)
  have hN' : vx_Zq Bundle.tN "SUPPRESSED_SENTINEL" Bundle.listD A s' s'.heap := by rw [hhp]; exact vx_Zq.moved hW0.alike (hN.kept hS.2.1)
  have h : ∀ w ∈ Bundle.ownAtoms own ic cls names, w.before args s' = true := vx_own hat' (vx_isRefq hU'.1) (vx_isRefq hN'.1) hU'.2.word hN'.2.word
  have hown' : s'.vm.findClass own = some m.cls := by rw [hvm]; exact hown
  have hins : (Cond.instantiable cls 6).before args s' = true := h _ (by simp [Bundle.ownAtoms])
  obtain ⟨vm₁, cX, kX, hfX, hkX, -, -, X₁, st1⟩ := Y.newCold hexec (own := own) (C := cls) (index := ik) (n := 6) hown' hk' hins hini'
    (g := F0 m pc ls rest) rfl (by rw [hb]; exact d0) (Nat.le_refl _) (Nat.le_refl _)
  generalize hT1 : (T.setVm vm₁).pushCell { cls := cX, slots := kX.instanceTypes.map defaultValue, vm := .none } = T1 at X₁ st1
  have hcat : (Value.ref T.heap.size).category = 1 := rfl
  have hcellA : T1.heap[T.heap.size]? = some (freshCell cX kX) := by rw [← hT1]; exact State.heap_pushCell_size _ _
  have d3' : decode c.code (pc + 3) = .ok (.dup, 1) := by rw [hb]; exact d3
  have d4' : decode c.code (pc + 4) = .ok (.ldc is, 2) := by rw [hb]; exact d4
  have hstr' : vk_R own is text sa s' := vk_R.warm hW0 hstr
  obtain ⟨U, hsteps, hrun, hend, hW, hsame, ce, hce, hO⟩ := X₁.ctorThrowS hexec htr (own := own) (cls := cls) (names := names) (ic := ic) hown' hcls hnames h (fun x hx => nomatch hx) hfX hkX hcellA (by rw [hhp, hT]; exact Nat.le_refl _) (msg := .ref sa) rfl
    (g := { method := m, pc := pc + 6, locals := ls, stack := .ref sa :: .ref T.heap.size :: .ref T.heap.size :: rest, locked := none }) rfl hsize rfl rfl (rest := rest) rfl
    (by rw [hb]; exact d6) (by rw [hb]; exact d9) hout hRframes (by simp only [List.map_cons, List.sum_cons, hcat]; omega) hlocks
  obtain ⟨f1, f2⟩ := vx_frame hsame
  rw [hhp] at f1 f2
  have hWs : s.WarmedH U.vm := State.WarmedH.trans hW0 hW
  have hcl : s.vm.findClass cls = some ce.cls := by
    have h9 := hO.cls
    rw [hvm] at h9
    exact h9
  have hall : s.sameButNew ({ U with vm := s.vm } : State) locs mc ms := by
    subst hA
    obtain ⟨e1, e2⟩ := hsame
    rw [State.setFrames_setFrames] at e1
    have h2 : (T.setVm s.vm).sameButNew ({ U with vm := s.vm } : State) [] (0 + 1) (0 + 6) := ⟨e1, e2⟩
    have h3 := X.same.trans h2
    rw [List.append_nil] at h3
    exact h3.mono hc hs
  refine ⟨U, ?_, .threw T.heap.size, hrun, hend, Or.inr ⟨T.heap.size, rfl, cls, ce, locs, hx U hWs.alike f1 (fun q hq => f2 q hq (fun z hz => nomatch hz)), hce, hO.vm, hcl, hWs, hall, hf⟩⟩
  refine st1 _ ?_
  show Steps p.tables e below (T1.setTop { method := m, pc := pc + 3, locals := ls, stack := .ref T.heap.size :: rest, locked := none }) _
  jvm_step X₁.here [X₁.here.top, hexec, d3', Value.category]
  exact X₁.ldcString hexec (own := own) (text := text) (index := is) (a := sa) hown' hstr'.1 hstr'.2
    (g := { method := m, pc := pc + 4, locals := ls, stack := .ref T.heap.size :: .ref T.heap.size :: rest, locked := none }) rfl d4' _ hsteps
/-- 'throw new E("text")', the text by a wide index -/
theorem vx_throwSW {cc : ByteArray} {pc : Nat} (hexec : p.tables.exec = Jvm.exec) (hb : c.code = cc) (hl : l.stackTraces = false) {own cls text : String} {names : List String} {ik is ic mc ms sa : Nat} {A : Nat → Prop}
    (hown : s.vm.findClass own = some m.cls) (hcls : Bundle.fit cls = true) (hnames : ∀ n ∈ names, Bundle.fit n = true)
    (hk : (Cond.classLink own ik cls).before args s = true) (hini : (Cond.initialized cls).before args s = true) (hstr : vk_R own is text sa s) (hat : ∀ w ∈ vx_atS own ic cls names, w.before args s = true)
    (hgood : ∀ w ∈ Cond.classLink own ik cls :: Cond.initialized cls :: vx_atS own ic cls names, vx_ot w = true)
    (hU : vx_Zq Bundle.tN "UNASSIGNED_STACK" Bundle.steD A s s.heap) (hN : vx_Zq Bundle.tN "SUPPRESSED_SENTINEL" Bundle.listD A s s.heap) (hS : va_S A s.heap H locs) (hsize : ls.size = c.maxLocals)
    (d0 : decode cc pc = .ok (.new ik, 3)) (d3 : decode cc (pc + 3) = .ok (.dup, 1)) (d4 : decode cc (pc + 4) = .ok (.ldc_w is, 3)) (d7 : decode cc (pc + 7) = .ok (.invokespecial ic, 3)) (d10 : decode cc (pc + 10) = .ok (.athrow, 1))
    (hout : ∀ x ∈ c.exceptionTable.toList, covers x (pc + 10) = false)
    (hRframes : names.length + 3 < R.frames) (hRlocals : (rest.map fun v => v.category).sum + (13 * (names.length + 1) + 43) ≤ R.locals) (hRcells : cells + 1 ≤ R.cells) (hRslots : slots + 6 ≤ R.slots) (hlocks : meth.locks = false)
    (hx : ∀ t : State, s.vm.Alike t.vm → H.size ≤ t.heap.size → (∀ q : Nat, q < H.size → t.heap[q]? = H[q]?) → XC cls s t)
    (hf : ∀ z ∈ locs, free z.base) (hc : cells + 1 ≤ mc) (hs : slots + 6 ≤ ms) :
    W p l e R s m args below meth c H locs cells slots (vx_MQ below Qc XC args s mc ms free) (F0 m pc ls rest) := by
  intro T hT X
  have htr : e.platform.stackTraces = false := (show e.platform.stackTraces = l.stackTraces by rw [X.admits.platform]).trans hl
  have Y := vx_rebase X (R' := { frames := R.frames, locals := R.locals, cells := 1, slots := 6 }) (Nat.le_refl _) (Nat.le_refl _) hRcells hRslots
  obtain ⟨s', hA⟩ : ∃ z, z = (T.setVm s.vm).setFrames (.invoking m args :: below) := ⟨_, rfl⟩
  rw [← hA] at Y
  have hvm : s'.vm = s.vm := by rw [hA]; rfl
  have hhp : s'.heap = H := by rw [hA]; exact hT
  have hW0 : s.WarmedH s'.vm := by rw [hvm]; exact State.WarmedH.refl s
  have hat' : ∀ w ∈ vx_atS own ic cls names, w.before args s' = true := fun w hw => vx_ot_at hW0 hvm.symm (hgood w (List.mem_cons_of_mem _ (List.mem_cons_of_mem _ hw))) (hat w hw)
  have hk' : (Cond.classLink own ik cls).before args s' = true := vx_ot_at hW0 hvm.symm (hgood _ List.mem_cons_self) hk
  have hini' : (Cond.initialized cls).before args s' = true := vx_ot_at hW0 hvm.symm (hgood _ (List.mem_cons_of_mem _ List.mem_cons_self)) hini
  have hU' : vx_Zq Bundle.tN "UNASSIGNED_STACK" Bundle.steD A s' s'.heap := by rw [hhp]; exact vx_Zq.moved hW0.alike (hU.kept hS.2.1)
  have hN' : vx_Zq Bundle.tN "SUPPRESSED_SENTINEL" Bundle.listD A s' s'.heap := by rw [hhp]; exact vx_Zq.moved hW0.alike (hN.kept hS.2.1)
  have h : ∀ w ∈ Bundle.ownAtoms own ic cls names, w.before args s' = true := vx_own hat' (vx_isRefq hU'.1) (vx_isRefq hN'.1) hU'.2.word hN'.2.word
  have hown' : s'.vm.findClass own = some m.cls := by rw [hvm]; exact hown
  have hins : (Cond.instantiable cls 6).before args s' = true := h _ (by simp [Bundle.ownAtoms])
  obtain ⟨vm₁, cX, kX, hfX, hkX, -, -, X₁, st1⟩ := Y.newCold hexec (own := own) (C := cls) (index := ik) (n := 6) hown' hk' hins hini'
    (g := F0 m pc ls rest) rfl (by rw [hb]; exact d0) (Nat.le_refl _) (Nat.le_refl _)
  generalize hT1 : (T.setVm vm₁).pushCell { cls := cX, slots := kX.instanceTypes.map defaultValue, vm := .none } = T1 at X₁ st1
  have hcat : (Value.ref T.heap.size).category = 1 := rfl
  have hcellA : T1.heap[T.heap.size]? = some (freshCell cX kX) := by rw [← hT1]; exact State.heap_pushCell_size _ _
  have d3' : decode c.code (pc + 3) = .ok (.dup, 1) := by rw [hb]; exact d3
  have d4' : decode c.code (pc + 4) = .ok (.ldc_w is, 3) := by rw [hb]; exact d4
  have hstr' : vk_R own is text sa s' := vk_R.warm hW0 hstr
  obtain ⟨U, hsteps, hrun, hend, hW, hsame, ce, hce, hO⟩ := X₁.ctorThrowS hexec htr (own := own) (cls := cls) (names := names) (ic := ic) hown' hcls hnames h (fun x hx => nomatch hx) hfX hkX hcellA (by rw [hhp, hT]; exact Nat.le_refl _) (msg := .ref sa) rfl
    (g := { method := m, pc := pc + 7, locals := ls, stack := .ref sa :: .ref T.heap.size :: .ref T.heap.size :: rest, locked := none }) rfl hsize rfl rfl (rest := rest) rfl
    (by rw [hb]; exact d7) (by rw [hb]; exact d10) hout hRframes (by simp only [List.map_cons, List.sum_cons, hcat]; omega) hlocks
  obtain ⟨f1, f2⟩ := vx_frame hsame
  rw [hhp] at f1 f2
  have hWs : s.WarmedH U.vm := State.WarmedH.trans hW0 hW
  have hcl : s.vm.findClass cls = some ce.cls := by
    have h9 := hO.cls
    rw [hvm] at h9
    exact h9
  have hall : s.sameButNew ({ U with vm := s.vm } : State) locs mc ms := by
    subst hA
    obtain ⟨e1, e2⟩ := hsame
    rw [State.setFrames_setFrames] at e1
    have h2 : (T.setVm s.vm).sameButNew ({ U with vm := s.vm } : State) [] (0 + 1) (0 + 6) := ⟨e1, e2⟩
    have h3 := X.same.trans h2
    rw [List.append_nil] at h3
    exact h3.mono hc hs
  refine ⟨U, ?_, .threw T.heap.size, hrun, hend, Or.inr ⟨T.heap.size, rfl, cls, ce, locs, hx U hWs.alike f1 (fun q hq => f2 q hq (fun z hz => nomatch hz)), hce, hO.vm, hcl, hWs, hall, hf⟩⟩
  refine st1 _ ?_
  show Steps p.tables e below (T1.setTop { method := m, pc := pc + 3, locals := ls, stack := .ref T.heap.size :: rest, locked := none }) _
  jvm_step X₁.here [X₁.here.top, hexec, d3', Value.category]
  exact X₁.ldcStringW hexec (own := own) (text := text) (index := is) (a := sa) hown' hstr'.1 hstr'.2
    (g := { method := m, pc := pc + 4, locals := ls, stack := .ref T.heap.size :: .ref T.heap.size :: rest, locked := none }) rfl d4' _ hsteps
end Ends
section Bodies
variable {l : Launch}
theorem vx_ofW {y : MethodName} {ws ws' : List Cond} {rm : Room} {Pc : Array Value → State → Prop} {Qc : Array Value → State → Outcome → State → Prop} {XC : String → State → State → Prop} {mc ms : Nat} {free : Addr → Prop} {cc : ByteArray} {maxL : Nat} {ret : Option FieldType}
    (hy : plainName y.cls = true) (hw : ws = Cond.code y cc maxL ret :: ws')
    (body : ∀ p e s m args below meth c s₁, BodyLoose p l y (headSpec ws rm) cc maxL ret e s m args below meth c s₁ → c.maxLocals = maxL → (∀ x ∈ c.exceptionTable.toList, False) → Pc args s →
      W p l e (headSpec ws rm).room s m args below meth c s.heap [] 0 0 (vx_MQ below Qc XC args s mc ms free) (entryFrame m args maxL)) : vx_Met l y ws rm Pc Qc XC mc ms free := by
  refine MetFree.of_bodyS (code := cc) (maxLocals := maxL) (ret := ret) hy ?_ ?_
  · intro args s m h hn
    obtain ⟨meth, c, h1, h2, h3, h4, h5, h6, -, -⟩ := Cond.code_spec hn (atoms_spec (ws := ws) h _ (by rw [hw]; exact List.mem_cons_self))
    exact ⟨meth, c, h1, h2, h3, h4, h5, h6⟩
  · intro p e s m args below meth c s₁ B hml hP _
    have hh0 : s₁.heap = s.heap := by rw [B.state]; rfl
    have ht : ∀ x ∈ c.exceptionTable.toList, False := by
      obtain ⟨meth9, c9, h1, h2, -, -, -, -, h7, -⟩ := Cond.code_spec B.named (atoms_spec (ws := ws) B.pre _ (by rw [hw]; exact List.mem_cons_self))
      cases Option.some.inj (h1.symm.trans B.method)
      cases Option.some.inj (h2.symm.trans (Stand.of_body B).code)
      intro x hx
      rw [Array.isEmpty_iff.mp h7] at hx
      cases hx
    obtain ⟨t, a1, o, b1, b2, b3⟩ := body p e s m args below meth c s₁ B hml ht hP s₁ hh0 (Stand.of_body B)
    exact ⟨t, o, a1, b1, b2, b3⟩
/-- the table of a body with handlers -/
theorem vx_table {p : Program} {x y : MethodName} {S : Spec} {cc bytes : ByteArray} {maxL maxL' : Nat} {ret ret' : Option FieldType} {e : Env} {s s₁ : State} {m : MethodId} {args : Array Value} {below : List Frame} {meth : Method} {c : Code} {hh : List (Nat × Nat × Nat × Nat)}
    (B : BodyLoose p l y S cc maxL ret e s m args below meth c s₁) (h : (Cond.codeWith y bytes maxL' ret' hh).before args s = true) : c.exceptionTable.toList = tableOf hh := by
  obtain ⟨m9, meth9, c9, hn9, h1, h2, -, -, h6, -⟩ := Cond.codeWith_spec h
  cases Option.some.inj (hn9.symm.trans B.named)
  cases Option.some.inj (h1.symm.trans B.method)
  cases Option.some.inj (h2.symm.trans (Stand.of_body B).code)
  rw [← h6, table_eq]
end Bodies
end VXA
/-! ===== END ===== -/
/-! ===== BEGIN a static call of a method with an exception table ===== -/
section VXS
variable {p : Program} {l : Launch} {e : Env} {R : Room} {s : State} {m : MethodId} {args : Array Value} {below : List Frame} {meth : Method} {c : Code} {T : State} {H : Heap} {locs : List Loc} {cells slots : Nat}
abbrev vx_CSW (R : Room) (s : State) (args : Array Value) (own : String) (index : Nat) (y : MethodName) (bytes : ByteArray) (maxL : Nat) (ret : Option FieldType) (hh : List (Nat × Nat × Nat × Nat)) (ws : List Cond) (rm : Room) (mc ms n : Nat) : Prop :=
  (rm.cells = mc ∧ rm.slots = ms ∧ rm.frames + 1 ≤ R.frames ∧ 8 + (maxL + 11) + rm.locals ≤ R.locals ∧ (∀ w ∈ ws, ∀ (a' : Array Value) (U : State), s.WarmedH U.vm → w.before a' U = true) ∧ Cond.codeWith y bytes maxL ret hh ∈ ws) ∧
  (Cond.codeWith y bytes maxL ret hh).before args s = true ∧ (Cond.initialized y.cls).before args s = true ∧ (y.cls ≠ "java/lang/invoke/MethodHandle" ∧ y.cls ≠ "java/lang/invoke/VarHandle") ∧
  (∀ sig, parseMethodDescriptor y.desc = some sig → n = sig.parameters.length) ∧ (Cond.methodLink own index y).before args s = true ∧ (Cond.static y).before args s = true
theorem vx_cwSW {own : String} {index maxL mc ms : Nat} {y : MethodName} {bytes : ByteArray} {ret : Option FieldType} {hh : List (Nat × Nat × Nat × Nat)} {Ts ws ws' : List Cond} {rm : Room} (n : Nat) (ht : ∀ w ∈ Ts, w.before args s = true) (hT : GoodIn Ts (va_wsS own index y ws)) (hw : ws = Cond.codeWith y bytes maxL ret hh :: ws') (hrc : rm.cells = mc) (hrs : rm.slots = ms)
    (hd : y.cls ≠ "java/lang/invoke/MethodHandle" ∧ y.cls ≠ "java/lang/invoke/VarHandle" ∧ (parseMethodDescriptor y.desc).map (fun d => d.parameters.length) = some n) (hR : rm.frames + 1 ≤ R.frames ∧ 8 + (maxL + 11) + rm.locals ≤ R.locals) :
    vx_CSW R s args own index y bytes maxL ret hh ws rm mc ms n := by
  have ok : ∀ w ∈ va_wsS own index y ws, w.before args s = true := fun w h => ht w (hT w h).1
  have hG : GoodIn Ts ws := fun w h => hT w (by unfold va_wsS; exact List.mem_append_right _ h)
  have hc : Cond.codeWith y bytes maxL ret hh ∈ ws := by rw [hw]; exact List.mem_cons_self
  refine ⟨⟨hrc, hrs, hR.1, hR.2, pay_in ht hG, hc⟩, ht _ (hG _ hc).1, ok _ (by simp [va_wsS]), ⟨hd.1, hd.2.1⟩, fun sig h => ?_, ok _ (by simp [va_wsS]), ok _ (by simp [va_wsS])⟩
  have h2 := hd.2.2
  rw [h] at h2
  exact (Option.some.inj h2).symm
theorem vx_callSW (X : Stand p l e R s m args below meth c T locs cells slots) (hexec : p.tables.exec = Jvm.exec) {own : String} {index : Nat} {y : MethodName} {bytes : ByteArray} {maxL : Nat} {ret : Option FieldType} {hh : List (Nat × Nat × Nat × Nat)}
    (hown : s.vm.findClass own = some m.cls) (hlink : (Cond.methodLink own index y).before args s = true) (hstat : (Cond.static y).before args s = true) (hinit : (Cond.initialized y.cls).before args s = true)
    (hcode : (Cond.codeWith y bytes maxL ret hh).before args s = true) (hy : y.cls ≠ "java/lang/invoke/MethodHandle" ∧ y.cls ≠ "java/lang/invoke/VarHandle")
    {W9 : Nat} {Pre : Pt → Array Value → Prop} {Post : Pt → Array Value → Option Value → Pt → Prop} (hK : Back l R p e below s args y 3 W9 Pre Post)
    {g : JFrame} (hg : g.method = m) (hsize : g.locals.size = c.maxLocals) {argsL rest : List Value} (hlen : ∀ sig, parseMethodDescriptor y.desc = some sig → argsL.length = sig.parameters.length)
    (hstack : g.stack = argsL.reverse ++ rest) (hW : 2 * g.monitorRoom + (rest.map fun v => v.category).sum ≤ W9) (hdg : decode c.code g.pc = .ok (.invokestatic index, 3))
    (hpre : ∀ vm₁, s.WarmedH vm₁ → Pre ⟨T.setVm vm₁, locs, cells, slots⟩ argsL.toArray) :
    ∃ (v : Option Value) (vm₁ : Vm) (B : Pt), s.WarmedH vm₁ ∧ Stand p l e R s m args below meth c B.U B.locs B.cells B.slots ∧ Post ⟨T.setVm vm₁, locs, cells, slots⟩ argsL.toArray v B ∧
      ∀ target, Steps p.tables e below (B.U.setTop { g with pc := g.pc + 3, stack := v.toList ++ rest }) target → Steps p.tables e below (T.setTop g) target := by
  obtain ⟨mk, methM, cM, hnamed, hmethM, -, -, -, -, -, -, hsigM⟩ := Cond.codeWith_spec hcode
  have hstatic : methM.isStatic = true := Cond.static_spec hnamed hmethM hstat
  obtain ⟨kP, hkP, -⟩ := className_of_methodNamed hnamed
  have hinitP : kP.init = .initialized := Cond.initialized_spec (findClass_of_methodNamed hnamed) hkP hinit
  obtain ⟨vm₁, X₁, hstep₁⟩ := X.invokestatic hexec hown hlink hnamed hmethM hstatic hkP hinitP hy (g := g) hg (argsL := argsL) (rest := rest) (hlen _ hsigM) hstack hdg
  obtain ⟨v, B, X', hpost, hsteps⟩ := hK m meth c ⟨T.setVm vm₁, locs, cells, slots⟩ { g with stack := rest } (.invokestatic index) mk argsL.toArray X₁ hg hsize hdg hW (X₁.named hnamed) (hpre vm₁ X₁.warmed)
  exact ⟨v, vm₁, B, X₁.warmed, X', hpost, fun target h => hstep₁ _ fun acts => by rw [doInvoke_state]; exact hsteps.trans h⟩
theorem vx_runSW {y : MethodName} {bytes cc : ByteArray} {maxL nL mc ms n index : Nat} {ret : Option FieldType} {hh : List (Nat × Nat × Nat × Nat)} {ws : List Cond} {rm : Room} {Pc : Array Value → State → Prop} {Qc : Array Value → State → Outcome → State → Prop} {free : Addr → Prop} {Ts : List Cond} {own : String} {As rest : List Value} {g : JFrame}
    (S : CallFix p m c cc nL s args Ts own) (hM : Met l y ws rm Pc Qc mc ms free) (cw : vx_CSW R s args own index y bytes maxL ret hh ws rm mc ms n) (hp : PreS s H Pc As)
    (hg : g.method = m) (hn : As.length = n) (hsize : g.locals.size = nL) (hstack : g.stack = As.reverse ++ rest) (hW : 2 * g.monitorRoom + (rest.map fun v => v.category).sum ≤ 8) (hdg : decode cc g.pc = .ok (.invokestatic index, 3)) (hf : cells + mc ≤ R.cells ∧ slots + ms ≤ R.slots) :
    va_Run p l e R s m args below meth c H locs cells slots mc ms g rest (Qc As.toArray) (free) := by
  obtain ⟨⟨hrc, hrs, hfr, hlo, hws, hcw⟩, hcode, hini, hy, hlen, hl, hstt⟩ := cw
  have hK : Back l R p e below s args y 3 8 (PreOf R mc ms Pc) (PostOf Qc mc ms free) := va_backW (hh := hh) (bytes := bytes) (maxL := maxL) (ret := ret) hM hp.1 hrc hrs hfr hlo hws hcw (fun a' U hW => word_at hW (Or.inl (by first | rfl | simp [Cond.onTables, Cond.keeps, Cond.steady])) hini)
  obtain ⟨hx, hb, hml, ho, -⟩ := S
  intro T hT X
  obtain ⟨v, vm₁, ⟨U', l2, c2, s2⟩, hW₁, X', ⟨g', mk, t, L, e1, e2, hq, h1, hL, h2, h3⟩, st⟩ := vx_callSW X hx (hh := hh) (bytes := bytes) (maxL := maxL) (ret := ret) ho hl hstt hini hcode hy hK hg (hsize.trans hml.symm) (argsL := As) (rest := rest) (fun sig h => hn.trans (hlen sig h)) hstack hW (by rw [hb]; exact hdg)
    (fun vm₁ hW₁ => ⟨hf.1, hf.2, hp.2 (T.setVm vm₁) hT hW₁⟩)
  dsimp only [Pt.U, Pt.locs, Pt.cells, Pt.slots] at X' e1 e2 h1 h2 h3 st
  subst h1; subst h2; subst h3
  exact ⟨v, (T.setVm vm₁).calling g' mk As.toArray, t, U', L, hT, X', hL, e1, e2, hq, st⟩
/-- not caught here, past rows that name other classes: it goes on to the caller -/
theorem vx_outP {p : Program} {l : Launch} {e : Env} {R : Room} {s : State} {m : MethodId} {args : Array Value} {below : List Frame} {meth : Method} {c : Code} {H : Heap} {locs : List Loc} {cells slots : Nat} {free : Addr → Prop} {ls : Array Slot} {rest : List Value} {Qc : Array Value → State → Outcome → State → Prop} {XC : String → State → State → Prop}
    {pc : Nat} {own E : String} {ce : Cell} {q : Addr} {mc ms : Nat} (hown : s.vm.findClass own = some m.cls) (hlocks : meth.locks = false)
    (hpass : ∀ z ∈ c.exceptionTable.toList, covers z pc = false ∨ (z.catchType ≠ 0 ∧ ∃ nm : String, (Cond.classLink own z.catchType nm).before args s = true ∧ va_Nc E nm s)) (hcell : H[q]? = some ce) (hv : ce.vm = .none) (hcl : s.vm.findClass E = some ce.cls)
    (hx : ∀ t : State, t.heap = H → s.vm.Alike t.vm → XC E s t) (hf : ∀ z ∈ locs, free z.base) (hc : cells ≤ mc) (hs : slots ≤ ms) :
    vx_W p l e R s m args below meth c H locs cells slots (vx_MQ below Qc XC args s mc ms free) (F0 m pc ls rest) q := by
  intro T hT X
  have hpl : e.platform.magicAccessors = ({} : Platform).magicAccessors := by rw [X.admits.platform]
  obtain ⟨vm', hW', X', st⟩ := X.outThrough hlocks q (g := F0 m pc ls rest) rfl rfl rfl (cell := ce) (by rw [hT]; exact hcell) (by rw [hv]; rfl)
    (by obtain ⟨k9, h9, -⟩ := Vm.findClass_spec hcl; exact ⟨k9, h9⟩) (fun z hz => by
      rcases hpass z hz with h | ⟨hz0, nm, hl1, hn1⟩
      · exact Or.inl h
      · obtain ⟨c6, hc6, hcl6⟩ := Cond.classLink_spec hown hl1 e.platform hpl
        obtain ⟨a8, b8, h1, h2, h3⟩ := hn1
        cases Option.some.inj (h1.symm.trans hcl)
        cases Option.some.inj (h2.symm.trans hc6)
        exact Or.inr ⟨hz0, _, hcl6, h3⟩)
  obtain ⟨g₀, hfr⟩ := X'.frames_eq
  have hcell9 : ((T.setVm vm').setFrames (.throwing q :: below)).heap[q]? = some ce := by
    show T.heap[q]? = some ce
    rw [hT]; exact hcell
  have hend : Ended ((T.setVm vm').setFrames (.throwing q :: below)) below (.threw q) := State.frames_setFrames _ (State.cur_lt_of_frames hfr)
  refine ⟨(T.setVm vm').setFrames (.throwing q :: below), ?_, .threw q, X'.here.running, hend, Or.inr ⟨q, rfl, E, ce, locs, hx _ hT (X'.ends _).1.alike, hcell9, hv, hcl, (X'.ends _).1, (X'.ends _).2.mono hc hs, hf⟩⟩
  rw [X.pushThrowing_eq]
  exact st
/-- a thing of a world lies in the heap -/
theorem vx_lt {D : va_G} {cl : List vw_C} {ws : va_W} {H1 : Heap} (h : va_P D cl ws H1) {k : Nat} {q : Nat × va_E} (hk : ws[k]? = some q) : q.1 < H1.size := (h k q hk).lt
end VXS
/-! ===== END ===== -/
/-! ===== BEGIN methods with a table of their own: called by a name, returning or throwing ===== -/
section VXH
/-! vx_backW, vx_callVX, vx_callSX, vx_callVW, vx_runVW, vx_runVX, vx_runSX, vx_ofWH follow the same proofs as their sisters above (Free/Laws.lean, Shelf42/LK1.lean); vx_outP calls Shelf42/NT130.lean (outThrough). -/
section
variable {l : Launch} {R : Room} {p : Program} {e : Env} {below : List Frame} {s : State} {sargs : Array Value} {y : MethodName} {len W9 : Nat}
theorem vx_backW {ws : List Cond} {rm : Room} {Pc : Array Value → State → Prop} {Qc : Array Value → State → Outcome → State → Prop} {XC : String → State → State → Prop} {mc ms : Nat} {free : Addr → Prop} {bytes : ByteArray} {maxL : Nat} {ret : Option FieldType} {hh : List (Nat × Nat × Nat × Nat)}
    (hM : vx_Met l y ws rm Pc Qc XC mc ms free) (hblind : FrameBlind Pc) (hrc : rm.cells = mc) (hrs : rm.slots = ms)
    (hframes : rm.frames + 1 ≤ R.frames) (hlocals : W9 + (maxL + 11) + rm.locals ≤ R.locals)
    (hws : ∀ w ∈ ws, ∀ a' U, s.WarmedH U.vm → w.before a' U = true) (hcode : Cond.codeWith y bytes maxL ret hh ∈ ws) (hinit : ∀ a' U, s.WarmedH U.vm → (Cond.initialized y.cls).before a' U = true) :
    vx_Back l R p e below s sargs y len W9 (PreOf R mc ms Pc) (PostOf Qc mc ms free) (vx_Post XC mc ms free) := by
  intro m meth c A g ig mk a X hg hsize hdg hW hn hp
  have h1 : (headSpec ws rm).pre.before a A.U = true := atoms_intro fun w hw => hws w hw _ _ X.warmed
  have h2 : (Cond.codeWith y bytes maxL ret hh).before a A.U = true := hws _ hcode _ _ X.warmed
  have h3 : (Cond.initialized y.cls).before a A.U = true := hinit _ _ X.warmed
  have h4 : A.cells + (headSpec ws rm).room.cells ≤ R.cells := by rw [show (headSpec ws rm).room.cells = mc from hrc]; exact hp.1
  have h5 : A.slots + (headSpec ws rm).room.slots ≤ R.slots := by rw [show (headSpec ws rm).room.slots = ms from hrs]; exact hp.2.1
  have hPc : Pc a (A.U.calling g mk a) := hblind _ _ _ _ hp.2.2
  obtain ⟨U, Ls, c0, s0⟩ := A
  dsimp only [Pt.U, Pt.locs, Pt.cells, Pt.slots] at h1 h2 h3 h4 h5 X hn hPc ⊢
  obtain ⟨m9, methY, cY, hn9, hmY, hcY, -, hlY, -⟩ := Cond.codeWith_spec h2
  cases Option.some.inj (hn9.symm.trans hn)
  obtain ⟨kY, hkY, -⟩ := className_of_methodNamed hn
  have hinitY : kY.init = .initialized := Cond.initialized_spec (findClass_of_methodNamed hn) hkY h3
  have h : At U g.method c below := by rw [hg]; exact X.here
  have hlocals9 : W9 + (maxL + 11) + (headSpec ws rm).room.locals ≤ R.locals := hlocals
  have happ : (headSpec ws rm).appliesLoose y e.platform (U.calling g mk a) = true :=
    Spec.appliesLoose_calling (g := g) h hdg hn hkY hinitY
      (X.room_calling (g := g) (R' := (headSpec ws rm).room) hsize hmY hcY hframes (by rw [hlY]; omega) h4 h5) h1
  obtain ⟨mid, hmid⟩ := h.above
  have hfr : (U.setTop g).frames = (.java g :: mid) ++ below := by rw [State.frames_setTop' g h.top, hmid]; rfl
  obtain ⟨o, s₂, hsteps, -, hend, hq⟩ := Steps.callFree hM p X.admits X.cas X.clock (acts := []) hfr happ hPc trivial
  have hq' : vx_Q Qc XC mc ms free a (U.calling g mk a) o s₂ := hq
  rw [State.frames_setTop' g h.top] at hend
  obtain ⟨g₀, hg0⟩ := Option.isSome_iff_exists.mp h.top
  obtain ⟨r, hr⟩ := State.topJava?_eq_some.mp hg0
  have hr' : (({ U with heap := s₂.heap, slotsUsed := s₂.slotsUsed } : State).setVm s₂.vm).frames = .java g₀ :: r := hr
  rcases hq' with ⟨hqc, L, hfe, hL⟩ | ⟨q, rfl, E, ce, L, hx, hce, hcv, hcl, hW₂, hsm, hL⟩
  · obtain ⟨⟨v, rfl⟩, hW₂, e2, q2, q3, q4, q5, q6⟩ := id hfe
    have e3 : s₂ = ({ (U.calling g mk a).setFrames s₂.frames with heap := s₂.heap, slotsUsed := s₂.slotsUsed } : State).setVm s₂.vm := by
      have : s₂ = ({ s₂ with vm := (U.calling g mk a).vm } : State).setVm s₂.vm := rfl
      rw [e2] at this
      exact this
    obtain ⟨c₂, i₂, len₂, hc₂, hd₂, hf₂⟩ := hend
    have hW' : U.WarmedH s₂.vm := hW₂
    have hcc : c₂ = c := by
      have h1 : s₂.code? g.method = U.code? g.method := by
        rw [State.code?_eq, State.code?_eq, hW'.alike.method?]
      exact Option.some.inj (hc₂.symm.trans (h1.trans h.code))
    subst hcc
    have hlen : len₂ = len := by rw [hdg] at hd₂; cases hd₂; rfl
    subst hlen
    have hs₂ : s₂ = (({ U with heap := s₂.heap, slotsUsed := s₂.slotsUsed } : State).setVm s₂.vm).setTop { g with pc := g.pc + len₂, stack := v.toList ++ g.stack } := by
      refine e3.trans ?_
      rw [hf₂, State.calling_eq h.top, State.setFrames_setFrames, State.setTop_of_frames _ hr', hr]
      rfl
    have hsame : U.sameButNew ({ U with heap := s₂.heap, slotsUsed := s₂.slotsUsed } : State) L mc ms := by
      refine ⟨?_, q2, q3, q4, q5, q6⟩
      obtain ⟨t, ht, -⟩ := State.frames_cons hr
      show ({ U with heap := s₂.heap, slotsUsed := s₂.slotsUsed } : State) = { U.setFrames U.frames with heap := s₂.heap, slotsUsed := s₂.slotsUsed }
      rw [State.setFrames_self ht]
    subst hg
    refine Or.inl ⟨v, ⟨(({ U with heap := s₂.heap, slotsUsed := s₂.slotsUsed } : State).setVm s₂.vm), Ls ++ L, c0 + mc, s0 + ms⟩,
      ⟨X.admits, X.cas, X.clock, X.frames, X.room, X.hears, X.method, X.code, (X.here.setHeapUsed s₂.heap s₂.slotsUsed).setVm hW'.alike, X.tail, State.WarmedH.trans X.warmed hW', X.limits, X.bytes, X.same.trans (hsame.setVm s.vm)⟩,
      ⟨g, mk, s₂, L, rfl, rfl, hqc, rfl, hL, rfl, rfl⟩, ?_⟩
    show Steps p.tables e below _ ((({ U with heap := s₂.heap, slotsUsed := s₂.slotsUsed } : State).setVm s₂.vm).setTop { g with pc := g.pc + len₂, stack := v.toList ++ g.stack })
    rw [← hs₂]
    exact hsteps
  · obtain ⟨e2, q2, q3, q4, q5, q6⟩ := id hsm
    have e3 : s₂ = ({ (U.calling g mk a).setFrames s₂.frames with heap := s₂.heap, slotsUsed := s₂.slotsUsed } : State).setVm s₂.vm := by
      have : s₂ = ({ s₂ with vm := (U.calling g mk a).vm } : State).setVm s₂.vm := rfl
      rw [e2] at this
      exact this
    have hf₂ : s₂.frames = .throwing q :: .java g :: U.frames.tail := hend
    have hW' : U.WarmedH s₂.vm := hW₂
    have hs₂ : s₂ = ((({ U with heap := s₂.heap, slotsUsed := s₂.slotsUsed } : State).setVm s₂.vm).setTop g).pushFrame (.throwing q) := by
      refine e3.trans ?_
      rw [hf₂, State.calling_eq h.top, State.setFrames_setFrames, State.pushFrame, State.frames_setTop _ hr', State.setTop_of_frames _ hr', State.setFrames_setFrames, hr]
      rfl
    have hsame : U.sameButNew ({ U with heap := s₂.heap, slotsUsed := s₂.slotsUsed } : State) L mc ms := by
      refine ⟨?_, q2, q3, q4, q5, q6⟩
      obtain ⟨t, ht, -⟩ := State.frames_cons hr
      show ({ U with heap := s₂.heap, slotsUsed := s₂.slotsUsed } : State) = { U.setFrames U.frames with heap := s₂.heap, slotsUsed := s₂.slotsUsed }
      rw [State.setFrames_self ht]
    subst hg
    refine Or.inr ⟨q, ⟨(({ U with heap := s₂.heap, slotsUsed := s₂.slotsUsed } : State).setVm s₂.vm), Ls ++ L, c0 + mc, s0 + ms⟩,
      ⟨X.admits, X.cas, X.clock, X.frames, X.room, X.hears, X.method, X.code, (X.here.setHeapUsed s₂.heap s₂.slotsUsed).setVm hW'.alike, X.tail, State.WarmedH.trans X.warmed hW', X.limits, X.bytes, X.same.trans (hsame.setVm s.vm)⟩,
      ⟨g, mk, s₂, L, E, ce, rfl, rfl, hx, hce, hcv, hcl, rfl, hL, rfl, rfl⟩, ?_⟩
    show Steps p.tables e below _ (((({ U with heap := s₂.heap, slotsUsed := s₂.slotsUsed } : State).setVm s₂.vm).setTop g).pushFrame (.throwing q))
    rw [← hs₂]
    exact hsteps
end
variable {p : Program} {l : Launch} {e : Env} {R : Room} {s : State} {m : MethodId} {args : Array Value} {below : List Frame} {meth : Method} {c : Code} {T : State} {H : Heap} {locs : List Loc} {cells slots : Nat}
theorem vx_callVX (X : Stand p l e R s m args below meth c T locs cells slots) (hexec : p.tables.exec = Jvm.exec) {own C : String} {index : Nat} {y : MethodName} {bytes : ByteArray} {maxL : Nat} {ret : Option FieldType} {hh : List (Nat × Nat × Nat × Nat)}
    (hown : s.vm.findClass own = some m.cls) (hlink : (Cond.methodLink own index y).before args s = true) (hinst : (Cond.instanceMethod y).before args s = true) (hsel : (Cond.selects C y y).before args s = true)
    (hcode : (Cond.codeWith y bytes maxL ret hh).before args s = true) (hy : y.cls ≠ "java/lang/invoke/MethodHandle" ∧ y.cls ≠ "java/lang/invoke/VarHandle")
    {W9 : Nat} {Pre : Pt → Array Value → Prop} {Post : Pt → Array Value → Option Value → Pt → Prop} {PostX : Pt → Array Value → Addr → Pt → Prop} (hK : vx_Back l R p e below s args y 3 W9 Pre Post PostX)
    {b : Addr} {cellB : Cell} (hcell : T.heap[b]? = some cellB) (hobj : cellB.vm.isStatics = false) (hcls : s.vm.findClass C = some cellB.cls)
    {g : JFrame} (hg : g.method = m) (hsize : g.locals.size = c.maxLocals) {argsL rest : List Value} (hlen : ∀ sig, parseMethodDescriptor y.desc = some sig → argsL.length = sig.parameters.length)
    (hstack : g.stack = argsL.reverse ++ .ref b :: rest) (hW : 2 * g.monitorRoom + (rest.map fun v => v.category).sum ≤ W9) (hdg : decode c.code g.pc = .ok (.invokevirtual index, 3))
    (hpre : ∀ vm₁, s.WarmedH vm₁ → Pre ⟨T.setVm vm₁, locs, cells, slots⟩ (Value.ref b :: argsL).toArray) :
    (∃ (v : Option Value) (vm₁ : Vm) (B : Pt), s.WarmedH vm₁ ∧ Stand p l e R s m args below meth c B.U B.locs B.cells B.slots ∧ Post ⟨T.setVm vm₁, locs, cells, slots⟩ (Value.ref b :: argsL).toArray v B ∧
      ∀ target, Steps p.tables e below (B.U.setTop { g with pc := g.pc + 3, stack := v.toList ++ rest }) target → Steps p.tables e below (T.setTop g) target) ∨
    (∃ (q : Addr) (vm₁ : Vm) (B : Pt), s.WarmedH vm₁ ∧ Stand p l e R s m args below meth c B.U B.locs B.cells B.slots ∧ PostX ⟨T.setVm vm₁, locs, cells, slots⟩ (Value.ref b :: argsL).toArray q B ∧
      Steps p.tables e below (T.setTop g) ((B.U.setTop { g with stack := rest }).pushFrame (.throwing q))) := by
  obtain ⟨mk, methM, hnamed, hmethM, hstM, habM⟩ := Cond.instanceMethod_spec hinst
  obtain ⟨m8, methM', cM, hn8, hmethM', -, -, -, -, -, -, hsigM⟩ := Cond.codeWith_spec hcode
  cases Option.some.inj (hn8.symm.trans hnamed)
  cases hmethM.symm.trans hmethM'
  obtain ⟨c2, r2, m2, q1, q2, q3, q4, kP, hkP, hkPi⟩ := Cond.selects_spec hsel
  cases hcls.symm.trans q1
  cases (State.methodFound?_of_named hnamed hy).symm.trans q2
  cases hnamed.symm.trans q3
  have hselP : selectMethod e.platform s.vm cellB.cls mk = .method mk := by rw [Launch.admits_selectMethod X.admits]; exact q4
  obtain ⟨vm₁, X₁, hstep₁⟩ := X.invokevirtual hexec hown hlink hnamed hmethM hstM hkP hkPi hy (a := b) (cell := cellB) hcell
    (fun z h => by rw [h] at hobj; cases hobj) hselP hmethM habM hkP hkPi (g := g) hg (argsL := argsL) (rest := rest) (hlen _ hsigM) hstack hdg
  rcases hK m meth c ⟨T.setVm vm₁, locs, cells, slots⟩ { g with stack := rest } (.invokevirtual index) mk (Value.ref b :: argsL).toArray X₁ hg hsize hdg hW (X₁.named hnamed) (hpre vm₁ X₁.warmed) with ⟨v, B, X', hpost, hsteps⟩ | ⟨q, B, X', hpost, hsteps⟩
  · exact Or.inl ⟨v, vm₁, B, X₁.warmed, X', hpost, fun target h => hstep₁ _ fun acts => by rw [doInvoke_state]; exact hsteps.trans h⟩
  · exact Or.inr ⟨q, vm₁, B, X₁.warmed, X', hpost, hstep₁ _ fun acts => by rw [doInvoke_state]; exact hsteps⟩
theorem vx_callSX (X : Stand p l e R s m args below meth c T locs cells slots) (hexec : p.tables.exec = Jvm.exec) {own : String} {index : Nat} {y : MethodName} {bytes : ByteArray} {maxL : Nat} {ret : Option FieldType} {hh : List (Nat × Nat × Nat × Nat)}
    (hown : s.vm.findClass own = some m.cls) (hlink : (Cond.methodLink own index y).before args s = true) (hstat : (Cond.static y).before args s = true) (hinit : (Cond.initialized y.cls).before args s = true)
    (hcode : (Cond.codeWith y bytes maxL ret hh).before args s = true) (hy : y.cls ≠ "java/lang/invoke/MethodHandle" ∧ y.cls ≠ "java/lang/invoke/VarHandle")
    {W9 : Nat} {Pre : Pt → Array Value → Prop} {Post : Pt → Array Value → Option Value → Pt → Prop} {PostX : Pt → Array Value → Addr → Pt → Prop} (hK : vx_Back l R p e below s args y 3 W9 Pre Post PostX)
    {g : JFrame} (hg : g.method = m) (hsize : g.locals.size = c.maxLocals) {argsL rest : List Value} (hlen : ∀ sig, parseMethodDescriptor y.desc = some sig → argsL.length = sig.parameters.length)
    (hstack : g.stack = argsL.reverse ++ rest) (hW : 2 * g.monitorRoom + (rest.map fun v => v.category).sum ≤ W9) (hdg : decode c.code g.pc = .ok (.invokestatic index, 3))
    (hpre : ∀ vm₁, s.WarmedH vm₁ → Pre ⟨T.setVm vm₁, locs, cells, slots⟩ argsL.toArray) :
    (∃ (v : Option Value) (vm₁ : Vm) (B : Pt), s.WarmedH vm₁ ∧ Stand p l e R s m args below meth c B.U B.locs B.cells B.slots ∧ Post ⟨T.setVm vm₁, locs, cells, slots⟩ argsL.toArray v B ∧
      ∀ target, Steps p.tables e below (B.U.setTop { g with pc := g.pc + 3, stack := v.toList ++ rest }) target → Steps p.tables e below (T.setTop g) target) ∨
    (∃ (q : Addr) (vm₁ : Vm) (B : Pt), s.WarmedH vm₁ ∧ Stand p l e R s m args below meth c B.U B.locs B.cells B.slots ∧ PostX ⟨T.setVm vm₁, locs, cells, slots⟩ argsL.toArray q B ∧
      Steps p.tables e below (T.setTop g) ((B.U.setTop { g with stack := rest }).pushFrame (.throwing q))) := by
  obtain ⟨mk, methM, cM, hnamed, hmethM, -, -, -, -, -, -, hsigM⟩ := Cond.codeWith_spec hcode
  have hstatic : methM.isStatic = true := Cond.static_spec hnamed hmethM hstat
  obtain ⟨kP, hkP, -⟩ := className_of_methodNamed hnamed
  have hinitP : kP.init = .initialized := Cond.initialized_spec (findClass_of_methodNamed hnamed) hkP hinit
  obtain ⟨vm₁, X₁, hstep₁⟩ := X.invokestatic hexec hown hlink hnamed hmethM hstatic hkP hinitP hy (g := g) hg (argsL := argsL) (rest := rest) (hlen _ hsigM) hstack hdg
  rcases hK m meth c ⟨T.setVm vm₁, locs, cells, slots⟩ { g with stack := rest } (.invokestatic index) mk argsL.toArray X₁ hg hsize hdg hW (X₁.named hnamed) (hpre vm₁ X₁.warmed) with ⟨v, B, X', hpost, hsteps⟩ | ⟨q, B, X', hpost, hsteps⟩
  · exact Or.inl ⟨v, vm₁, B, X₁.warmed, X', hpost, fun target h => hstep₁ _ fun acts => by rw [doInvoke_state]; exact hsteps.trans h⟩
  · exact Or.inr ⟨q, vm₁, B, X₁.warmed, X', hpost, hstep₁ _ fun acts => by rw [doInvoke_state]; exact hsteps⟩
theorem vx_callVW (X : Stand p l e R s m args below meth c T locs cells slots) (hexec : p.tables.exec = Jvm.exec) {own C : String} {index : Nat} {y : MethodName} {bytes : ByteArray} {maxL : Nat} {ret : Option FieldType} {hh : List (Nat × Nat × Nat × Nat)}
    (hown : s.vm.findClass own = some m.cls) (hlink : (Cond.methodLink own index y).before args s = true) (hinst : (Cond.instanceMethod y).before args s = true) (hsel : (Cond.selects C y y).before args s = true)
    (hcode : (Cond.codeWith y bytes maxL ret hh).before args s = true) (hy : y.cls ≠ "java/lang/invoke/MethodHandle" ∧ y.cls ≠ "java/lang/invoke/VarHandle")
    {W9 : Nat} {Pre : Pt → Array Value → Prop} {Post : Pt → Array Value → Option Value → Pt → Prop} (hK : Back l R p e below s args y 3 W9 Pre Post)
    {b : Addr} {cellB : Cell} (hcell : T.heap[b]? = some cellB) (hobj : cellB.vm.isStatics = false) (hcls : s.vm.findClass C = some cellB.cls)
    {g : JFrame} (hg : g.method = m) (hsize : g.locals.size = c.maxLocals) {argsL rest : List Value} (hlen : ∀ sig, parseMethodDescriptor y.desc = some sig → argsL.length = sig.parameters.length)
    (hstack : g.stack = argsL.reverse ++ .ref b :: rest) (hW : 2 * g.monitorRoom + (rest.map fun v => v.category).sum ≤ W9) (hdg : decode c.code g.pc = .ok (.invokevirtual index, 3))
    (hpre : ∀ vm₁, s.WarmedH vm₁ → Pre ⟨T.setVm vm₁, locs, cells, slots⟩ (Value.ref b :: argsL).toArray) :
    ∃ (v : Option Value) (vm₁ : Vm) (B : Pt), s.WarmedH vm₁ ∧ Stand p l e R s m args below meth c B.U B.locs B.cells B.slots ∧ Post ⟨T.setVm vm₁, locs, cells, slots⟩ (Value.ref b :: argsL).toArray v B ∧
      ∀ target, Steps p.tables e below (B.U.setTop { g with pc := g.pc + 3, stack := v.toList ++ rest }) target → Steps p.tables e below (T.setTop g) target := by
  obtain ⟨mk, methM, hnamed, hmethM, hstM, habM⟩ := Cond.instanceMethod_spec hinst
  obtain ⟨m8, methM', cM, hn8, hmethM', -, -, -, -, -, -, hsigM⟩ := Cond.codeWith_spec hcode
  cases Option.some.inj (hn8.symm.trans hnamed)
  cases hmethM.symm.trans hmethM'
  obtain ⟨c2, r2, m2, q1, q2, q3, q4, kP, hkP, hkPi⟩ := Cond.selects_spec hsel
  cases hcls.symm.trans q1
  cases (State.methodFound?_of_named hnamed hy).symm.trans q2
  cases hnamed.symm.trans q3
  have hselP : selectMethod e.platform s.vm cellB.cls mk = .method mk := by rw [Launch.admits_selectMethod X.admits]; exact q4
  obtain ⟨vm₁, X₁, hstep₁⟩ := X.invokevirtual hexec hown hlink hnamed hmethM hstM hkP hkPi hy (a := b) (cell := cellB) hcell
    (fun z h => by rw [h] at hobj; cases hobj) hselP hmethM habM hkP hkPi (g := g) hg (argsL := argsL) (rest := rest) (hlen _ hsigM) hstack hdg
  obtain ⟨v, B, X', hpost, hsteps⟩ := hK m meth c ⟨T.setVm vm₁, locs, cells, slots⟩ { g with stack := rest } (.invokevirtual index) mk (Value.ref b :: argsL).toArray X₁ hg hsize hdg hW (X₁.named hnamed) (hpre vm₁ X₁.warmed)
  exact ⟨v, vm₁, B, X₁.warmed, X', hpost, fun target h => hstep₁ _ fun acts => by rw [doInvoke_state]; exact hsteps.trans h⟩
abbrev vx_CVW (R : Room) (s : State) (args : Array Value) (own C : String) (index : Nat) (y : MethodName) (bytes : ByteArray) (maxL : Nat) (ret : Option FieldType) (hh : List (Nat × Nat × Nat × Nat)) (ws : List Cond) (rm : Room) (mc ms n : Nat) : Prop :=
  (rm.cells = mc ∧ rm.slots = ms ∧ rm.frames + 1 ≤ R.frames ∧ 8 + (maxL + 11) + rm.locals ≤ R.locals ∧ (∀ w ∈ ws, ∀ (a' : Array Value) (U : State), s.WarmedH U.vm → w.before a' U = true) ∧ Cond.codeWith y bytes maxL ret hh ∈ ws) ∧
  (Cond.codeWith y bytes maxL ret hh).before args s = true ∧ (Cond.initialized y.cls).before args s = true ∧ (y.cls ≠ "java/lang/invoke/MethodHandle" ∧ y.cls ≠ "java/lang/invoke/VarHandle") ∧
  (∀ sig, parseMethodDescriptor y.desc = some sig → n = sig.parameters.length) ∧ (Cond.methodLink own index y).before args s = true ∧ (Cond.instanceMethod y).before args s = true ∧ (Cond.selects C y y).before args s = true
theorem vx_cwVW {own C : String} {index maxL mc ms : Nat} {y : MethodName} {bytes : ByteArray} {ret : Option FieldType} {hh : List (Nat × Nat × Nat × Nat)} {Ts ws ws' : List Cond} {rm : Room} (n : Nat) (ht : ∀ w ∈ Ts, w.before args s = true) (hT : GoodIn Ts (wsV own index C y ws)) (hw : ws = Cond.codeWith y bytes maxL ret hh :: ws') (hrc : rm.cells = mc) (hrs : rm.slots = ms)
    (hd : y.cls = C ∧ y.cls ≠ "java/lang/invoke/MethodHandle" ∧ y.cls ≠ "java/lang/invoke/VarHandle" ∧ (parseMethodDescriptor y.desc).map (fun d => d.parameters.length) = some n) (hR : rm.frames + 1 ≤ R.frames ∧ 8 + (maxL + 11) + rm.locals ≤ R.locals) :
    vx_CVW R s args own C index y bytes maxL ret hh ws rm mc ms n := by
  obtain ⟨hC, hd⟩ := hd
  subst hC
  have ok : ∀ w ∈ wsV own index y.cls y ws, w.before args s = true := fun w h => ht w (hT w h).1
  have hG : GoodIn Ts ws := fun w h => hT w (by unfold wsV; exact List.mem_append_right _ h)
  have hc : Cond.codeWith y bytes maxL ret hh ∈ ws := by rw [hw]; exact List.mem_cons_self
  refine ⟨⟨hrc, hrs, hR.1, hR.2, pay_in ht hG, hc⟩, ht _ (hG _ hc).1, ok _ (by simp [wsV]), ⟨hd.1, hd.2.1⟩, fun sig h => ?_, ok _ (by simp [wsV]), ok _ (by simp [wsV]), ok _ (by simp [wsV])⟩
  have h2 := hd.2.2
  rw [h] at h2
  exact (Option.some.inj h2).symm
theorem vx_runVW {y : MethodName} {bytes cc : ByteArray} {maxL nL mc ms n index : Nat} {ret : Option FieldType} {hh : List (Nat × Nat × Nat × Nat)} {ws : List Cond} {rm : Room} {Pc : Array Value → State → Prop} {Qc : Array Value → State → Outcome → State → Prop} {free : Addr → Prop} {Ts : List Cond} {own C : String} {b : Addr} {As rest : List Value} {g : JFrame}
    (S : CallFix p m c cc nL s args Ts own) (hM : Met l y ws rm Pc Qc mc ms free) (cw : vx_CVW R s args own C index y bytes maxL ret hh ws rm mc ms n) (hp : PreV s H C b Pc As)
    (hg : g.method = m) (hn : As.length = n) (hsize : g.locals.size = nL) (hstack : g.stack = As.reverse ++ .ref b :: rest) (hW : 2 * g.monitorRoom + (rest.map fun v => v.category).sum ≤ 8) (hdg : decode cc g.pc = .ok (.invokevirtual index, 3)) (hf : cells + mc ≤ R.cells ∧ slots + ms ≤ R.slots) :
    va_Run p l e R s m args below meth c H locs cells slots mc ms g rest (Qc (Value.ref b :: As).toArray) free := by
  obtain ⟨⟨hrc, hrs, hfr, hlo, hws, hcw⟩, hcode, hini, hy, hlen, hl, hin, hse⟩ := cw
  have hK : Back l R p e below s args y 3 8 (PreOf R mc ms Pc) (PostOf Qc mc ms free) := va_backW (hh := hh) (bytes := bytes) (maxL := maxL) (ret := ret) hM hp.1 hrc hrs hfr hlo hws hcw (fun a' U hW => word_at hW (Or.inl (by first | rfl | simp [Cond.onTables, Cond.keeps, Cond.steady])) hini)
  obtain ⟨hx, hb, hml, ho, -⟩ := S
  obtain ⟨-, ⟨cellB, hcB, hoB, hclB⟩, hPc⟩ := hp
  intro T hT X
  obtain ⟨v, vm₁, ⟨U', l2, c2, s2⟩, hW₁, X', ⟨g', mk, t, L, e1, e2, hq, h1, hL, h2, h3⟩, st⟩ := vx_callVW X hx (C := C) (hh := hh) (bytes := bytes) (maxL := maxL) (ret := ret) ho hl hin hse hcode hy hK (by rw [hT]; exact hcB) hoB hclB hg (hsize.trans hml.symm) (argsL := As) (rest := rest) (fun sig h => hn.trans (hlen sig h)) hstack hW (by rw [hb]; exact hdg)
    (fun vm₁ hW₁ => ⟨hf.1, hf.2, hPc (T.setVm vm₁) hT hW₁⟩)
  dsimp only [Pt.U, Pt.locs, Pt.cells, Pt.slots] at X' e1 e2 h1 h2 h3 st
  subst h1; subst h2; subst h3
  exact ⟨v, (T.setVm vm₁).calling g' mk (Value.ref b :: As).toArray, t, U', L, hT, X', hL, e1, e2, hq, st⟩
section
variable {y : MethodName} {bytes cc : ByteArray} {maxL nL mc ms n index : Nat} {ret : Option FieldType} {ws : List Cond} {rm : Room} {Pc : Array Value → State → Prop} {Qc : Array Value → State → Outcome → State → Prop} {XC : String → State → State → Prop} {free : Addr → Prop} {Ts : List Cond} {own C : String} {b : Addr} {As rest : List Value} {g : JFrame}
theorem vx_runVX {hh : List (Nat × Nat × Nat × Nat)} (S : CallFix p m c cc nL s args Ts own) (hM : vx_Met l y ws rm Pc Qc XC mc ms free) (cw : vx_CVW R s args own C index y bytes maxL ret hh ws rm mc ms n) (hp : PreV s H C b Pc As)
    (hg : g.method = m) (hn : As.length = n) (hsize : g.locals.size = nL) (hstack : g.stack = As.reverse ++ .ref b :: rest) (hW : 2 * g.monitorRoom + (rest.map fun v => v.category).sum ≤ 8) (hdg : decode cc g.pc = .ok (.invokevirtual index, 3)) (hf : cells + mc ≤ R.cells ∧ slots + ms ≤ R.slots) :
    vx_Run p l e R s m args below meth c H locs cells slots mc ms g rest (Qc (Value.ref b :: As).toArray) XC free := by
  obtain ⟨⟨hrc, hrs, hfr, hlo, hws, hcw⟩, hcode, hini, hy, hlen, hl, hin, hse⟩ := cw
  have hK : vx_Back l R p e below s args y 3 8 (PreOf R mc ms Pc) (PostOf Qc mc ms free) (vx_Post XC mc ms free) := vx_backW (hh := hh) (bytes := bytes) (maxL := maxL) (ret := ret) hM hp.1 hrc hrs hfr hlo hws hcw (fun a' U hW => word_at hW (Or.inl (by first | rfl | simp [Cond.onTables, Cond.keeps, Cond.steady])) hini)
  obtain ⟨hx, hb, hml, ho, -⟩ := S
  obtain ⟨-, ⟨cellB, hcB, hoB, hclB⟩, hPc⟩ := hp
  intro T hT X
  rcases vx_callVX X hx (C := C) (hh := hh) (bytes := bytes) (maxL := maxL) (ret := ret) ho hl hin hse hcode hy hK (by rw [hT]; exact hcB) hoB hclB hg (hsize.trans hml.symm) (argsL := As) (rest := rest) (fun sig h => hn.trans (hlen sig h)) hstack hW (by rw [hb]; exact hdg)
    (fun vm₁ hW₁ => ⟨hf.1, hf.2, hPc (T.setVm vm₁) hT hW₁⟩) with ⟨v, vm₁, ⟨U', l2, c2, s2⟩, hW₁, X', ⟨g', mk, t, L, e1, e2, hq, h1, hL, h2, h3⟩, st⟩ | ⟨q, vm₁, ⟨U', l2, c2, s2⟩, hW₁, X', ⟨g', mk, t, L, E, ce, e1, e2, hq, hce, hcv, hcl, h1, hL, h2, h3⟩, st⟩
  · dsimp only [Pt.U, Pt.locs, Pt.cells, Pt.slots] at X' e1 e2 h1 h2 h3 st
    subst h1; subst h2; subst h3
    exact Or.inl ⟨v, (T.setVm vm₁).calling g' mk (Value.ref b :: As).toArray, t, U', L, hT, X', hL, e1, e2, hq, st⟩
  · dsimp only [Pt.U, Pt.locs, Pt.cells, Pt.slots] at X' e1 e2 h1 h2 h3 st hcl
    subst h1; subst h2; subst h3
    exact Or.inr ⟨q, (T.setVm vm₁).calling g' mk (Value.ref b :: As).toArray, t, U', L, E, ce, hT, X', hL, e1, e2, hq, hce, hcv, vx_cls hW₁ hcl, st⟩
theorem vx_runSX {hh : List (Nat × Nat × Nat × Nat)} (S : CallFix p m c cc nL s args Ts own) (hM : vx_Met l y ws rm Pc Qc XC mc ms free) (cw : vx_CSW R s args own index y bytes maxL ret hh ws rm mc ms n) (hp : PreS s H Pc As)
    (hg : g.method = m) (hn : As.length = n) (hsize : g.locals.size = nL) (hstack : g.stack = As.reverse ++ rest) (hW : 2 * g.monitorRoom + (rest.map fun v => v.category).sum ≤ 8) (hdg : decode cc g.pc = .ok (.invokestatic index, 3)) (hf : cells + mc ≤ R.cells ∧ slots + ms ≤ R.slots) :
    vx_Run p l e R s m args below meth c H locs cells slots mc ms g rest (Qc As.toArray) XC free := by
  obtain ⟨⟨hrc, hrs, hfr, hlo, hws, hcw⟩, hcode, hini, hy, hlen, hl, hstt⟩ := cw
  have hK : vx_Back l R p e below s args y 3 8 (PreOf R mc ms Pc) (PostOf Qc mc ms free) (vx_Post XC mc ms free) := vx_backW (hh := hh) (bytes := bytes) (maxL := maxL) (ret := ret) hM hp.1 hrc hrs hfr hlo hws hcw (fun a' U hW => word_at hW (Or.inl (by first | rfl | simp [Cond.onTables, Cond.keeps, Cond.steady])) hini)
  obtain ⟨hx, hb, hml, ho, -⟩ := S
  intro T hT X
  rcases vx_callSX X hx (hh := hh) (bytes := bytes) (maxL := maxL) (ret := ret) ho hl hstt hini hcode hy hK hg (hsize.trans hml.symm) (argsL := As) (rest := rest) (fun sig h => hn.trans (hlen sig h)) hstack hW (by rw [hb]; exact hdg)
    (fun vm₁ hW₁ => ⟨hf.1, hf.2, hp.2 (T.setVm vm₁) hT hW₁⟩) with ⟨v, vm₁, ⟨U', l2, c2, s2⟩, hW₁, X', ⟨g', mk, t, L, e1, e2, hq, h1, hL, h2, h3⟩, st⟩ | ⟨q, vm₁, ⟨U', l2, c2, s2⟩, hW₁, X', ⟨g', mk, t, L, E, ce, e1, e2, hq, hce, hcv, hcl, h1, hL, h2, h3⟩, st⟩
  · dsimp only [Pt.U, Pt.locs, Pt.cells, Pt.slots] at X' e1 e2 h1 h2 h3 st
    subst h1; subst h2; subst h3
    exact Or.inl ⟨v, (T.setVm vm₁).calling g' mk As.toArray, t, U', L, hT, X', hL, e1, e2, hq, st⟩
  · dsimp only [Pt.U, Pt.locs, Pt.cells, Pt.slots] at X' e1 e2 h1 h2 h3 st hcl
    subst h1; subst h2; subst h3
    exact Or.inr ⟨q, (T.setVm vm₁).calling g' mk As.toArray, t, U', L, E, ce, hT, X', hL, e1, e2, hq, hce, hcv, vx_cls hW₁ hcl, st⟩
end
end VXH
theorem vx_ofWH {l : Launch} {y : MethodName} {ws ws' : List Cond} {rm : Room} {Pc : Array Value → State → Prop} {Qc : Array Value → State → Outcome → State → Prop} {XC : String → State → State → Prop} {mc ms : Nat} {free : Addr → Prop} {cc : ByteArray} {maxL : Nat} {ret : Option FieldType} {hh : List (Nat × Nat × Nat × Nat)}
    (hy : plainName y.cls = true) (hw : ws = Cond.codeWith y cc maxL ret hh :: ws')
    (body : ∀ p e s m args below meth c s₁, BodyLoose p l y (headSpec ws rm) cc maxL ret e s m args below meth c s₁ → c.maxLocals = maxL → Pc args s →
      W p l e (headSpec ws rm).room s m args below meth c s.heap [] 0 0 (vx_MQ below Qc XC args s mc ms free) (entryFrame m args maxL)) : vx_Met l y ws rm Pc Qc XC mc ms free := by
  refine MetFree.of_bodyS (code := cc) (maxLocals := maxL) (ret := ret) hy ?_ ?_
  · intro args s m h hn
    obtain ⟨m9, meth, c, hn9, h1, h2, h3, h4, -, h5, h6, -⟩ := Cond.codeWith_spec (atoms_spec (ws := ws) h _ (by rw [hw]; exact List.mem_cons_self))
    cases hn.symm.trans hn9
    exact ⟨meth, c, h1, h2, h3, h4, h5, h6⟩
  · intro p e s m args below meth c s₁ B hml hP _
    have hh0 : s₁.heap = s.heap := by rw [B.state]; rfl
    obtain ⟨t, a1, o, b1, b2, b3⟩ := body p e s m args below meth c s₁ B hml hP s₁ hh0 (Stand.of_body B)
    exact ⟨t, o, a1, b1, b2, b3⟩
/-! ===== END ===== -/
end
section
def fo : String := String.ofList [Char.ofNat 111, Char.ofNat 112, Char.ofNat 101, Char.ofNat 110]
/-! names, field tables, decode rows: written by wip/whole/gen_names.py -/
def RS : String := "SceneTree"
def RT : String := "SceneTree$Turner"
def RM : String := "SceneTreeModel"
def RL : String := "SceneTreeLaw"
def RJ : String := "java/lang/Math"
def TT : u_T := fun k => match k with
  | 0 => ("SceneTree$Turner", "x", "[I", true)
  | 1 => ("SceneTree$Turner", "y", "[I", true)
  | 2 => ("SceneTree$Turner", "z", "[I", true)
  | 3 => ("SceneTree$Turner", "yx", "[I", true)
  | _ => ("SceneTree$Turner", "whole", "[I", true)
def tyT : Nat → FieldType := fun k => match k with
  | 0 => .array .int
  | 1 => .array .int
  | 2 => .array .int
  | 3 => .array .int
  | _ => .array .int
theorem nmT : ∀ a, a < 5 → ∀ b, b < 5 → a ≠ b → (TT a).2.1 ≠ (TT b).2.1 := by decide +kernel
theorem tyT_ok : ∀ k, k < 5 → parseFieldDescriptor (TT k).2.2.1 = some (tyT k) := by decide +kernel
def TS : u_T := fun k => match k with
  | 0 => ("SceneTree", "nodes", "I", false)
  | 1 => ("SceneTree", "parents", "[I", true)
  | 2 => ("SceneTree", "kinds", "[I", true)
  | 3 => ("SceneTree", "hidden", "[Z", true)
  | 4 => ("SceneTree", "numbers", "[[I", true)
  | 5 => ("SceneTree", "locals", "[[I", true)
  | 6 => ("SceneTree", "worlds", "[[I", true)
  | 7 => ("SceneTree", "worldsReady", "I", false)
  | 8 => ("SceneTree", "eye", "[I", true)
  | 9 => ("SceneTree", "view", "[I", true)
  | 10 => ("SceneTree", fo, "[Z", true)
  | 11 => ("SceneTree", "depths", "[I", true)
  | 12 => ("SceneTree", "order", "[I", true)
  | _ => ("SceneTree", "turner", "LSceneTree$Turner;", true)
def tyS : Nat → FieldType := fun k => match k with
  | 0 => .int
  | 1 => .array .int
  | 2 => .array .int
  | 3 => .array .boolean
  | 4 => .array (.array .int)
  | 5 => .array (.array .int)
  | 6 => .array (.array .int)
  | 7 => .int
  | 8 => .array .int
  | 9 => .array .int
  | 10 => .array .boolean
  | 11 => .array .int
  | 12 => .array .int
  | _ => .object "SceneTree$Turner"
theorem nmS : ∀ a, a < 14 → ∀ b, b < 14 → a ≠ b → (TS a).2.1 ≠ (TS b).2.1 := by decide +kernel
theorem tyS_ok : ∀ k, k < 14 → parseFieldDescriptor (TS k).2.2.1 = some (tyS k) := by decide +kernel
def TM : u_T := fun k => match k with
  | 0 => ("SceneTreeModel", "thrown", "I", false)
  | 1 => ("SceneTreeModel", "many", "I", false)
  | 2 => ("SceneTreeModel", "parents", "[I", true)
  | 3 => ("SceneTreeModel", "kinds", "[I", true)
  | 4 => ("SceneTreeModel", "hidden", "[Z", true)
  | 5 => ("SceneTreeModel", "numbers", "[I", true)
  | 6 => ("SceneTreeModel", "way", "[I", true)
  | 7 => ("SceneTreeModel", "depths", "[J", true)
  | 8 => ("SceneTreeModel", "made", "[J", true)
  | 9 => ("SceneTreeModel", "left", "[J", true)
  | 10 => ("SceneTreeModel", "right", "[J", true)
  | 11 => ("SceneTreeModel", "part", "[J", true)
  | 12 => ("SceneTreeModel", "own", "[J", true)
  | _ => ("SceneTreeModel", "above", "[J", true)
def tyM : Nat → FieldType := fun k => match k with
  | 0 => .int
  | 1 => .int
  | 2 => .array .int
  | 3 => .array .int
  | 4 => .array .boolean
  | 5 => .array .int
  | 6 => .array .int
  | 7 => .array .long
  | 8 => .array .long
  | 9 => .array .long
  | 10 => .array .long
  | 11 => .array .long
  | 12 => .array .long
  | _ => .array .long
theorem nmM : ∀ a, a < 14 → ∀ b, b < 14 → a ≠ b → (TM a).2.1 ≠ (TM b).2.1 := by decide +kernel
theorem tyM_ok : ∀ k, k < 14 → parseFieldDescriptor (TM k).2.2.1 = some (tyM k) := by decide +kernel
abbrev cls3 : List vw_C := [(RT, TT, 5), (RS, TS, 14), (RM, TM, 14)]
abbrev cS_init : ByteArray := prog_1_method_1_code
def yS_init : MethodName := ⟨RS, "<init>", "()V"⟩
abbrev cT_init : ByteArray := prog_2_method_1_code
def yT_init : MethodName := ⟨RT, "<init>", "()V"⟩
abbrev cS_refreshView : ByteArray := prog_1_method_21_code
def yS_refreshView : MethodName := ⟨RS, "refreshView", "()V"⟩
abbrev cT_turnOf : ByteArray := prog_2_method_2_code
def yT_turnOf : MethodName := ⟨RT, "turnOf", "([I)[I"⟩
abbrev cT_spin : ByteArray := prog_2_method_3_code
def yT_spin : MethodName := ⟨RT, "spin", "([IIII)V"⟩
abbrev cS_sine : ByteArray := prog_1_method_32_code
def yS_sine : MethodName := ⟨RS, "sine", "(I)I"⟩
abbrev cJ_floorMod : ByteArray := prog_6_method_50_code
def yJ_floorMod : MethodName := ⟨RJ, "floorMod", "(II)I"⟩
abbrev cJ_floorDiv : ByteArray := prog_6_method_49_code
def yJ_floorDiv : MethodName := ⟨RJ, "floorDiv", "(JJ)J"⟩
abbrev cS_multiply : ByteArray := prog_1_method_28_code
def yS_multiply : MethodName := ⟨RS, "multiply", "([I[I[I)V"⟩
abbrev cS_productAt : ByteArray := prog_1_method_29_code
def yS_productAt : MethodName := ⟨RS, "productAt", "([I[III)I"⟩
abbrev cS_mul : ByteArray := prog_1_method_30_code
def yS_mul : MethodName := ⟨RS, "mul", "(JJ)J"⟩
abbrev cS_bound : ByteArray := prog_1_method_31_code
def yS_bound : MethodName := ⟨RS, "bound", "(J)I"⟩
abbrev cJ_min_JJJ : ByteArray := prog_6_method_70_code
def yJ_min_JJJ : MethodName := ⟨RJ, "min", "(JJ)J"⟩
abbrev cJ_max_JJJ : ByteArray := prog_6_method_66_code
def yJ_max_JJJ : MethodName := ⟨RJ, "max", "(JJ)J"⟩
abbrev cS_add : ByteArray := prog_1_method_2_code
def yS_add : MethodName := ⟨RS, "add", "(II)I"⟩
abbrev cS_isParentBefore : ByteArray := prog_1_method_15_code
def yS_isParentBefore : MethodName := ⟨RS, "isParentBefore", "(II)Z"⟩
abbrev cS_put : ByteArray := prog_1_method_19_code
def yS_put : MethodName := ⟨RS, "put", "([IIIII)V"⟩
abbrev cS_refreshLocal : ByteArray := prog_1_method_20_code
def yS_refreshLocal : MethodName := ⟨RS, "refreshLocal", "(I)V"⟩
abbrev cS_clear : ByteArray := prog_1_method_3_code
def yS_clear : MethodName := ⟨RS, "clear", "()V"⟩
abbrev cS_set : ByteArray := prog_1_method_4_code
def yS_set : MethodName := ⟨RS, "set", "(IIIII)Z"⟩
abbrev cS_isNode : ByteArray := prog_1_method_14_code
def yS_isNode : MethodName := ⟨RS, "isNode", "(I)Z"⟩
abbrev cS_canBe : ByteArray := prog_1_method_17_code
def yS_canBe : MethodName := ⟨RS, "canBe", "(IIII)Z"⟩
abbrev cS_isWithin : ByteArray := prog_1_method_18_code
def yS_isWithin : MethodName := ⟨RS, "isWithin", "(II)Z"⟩
abbrev cJ_min_III : ByteArray := prog_6_method_69_code
def yJ_min_III : MethodName := ⟨RJ, "min", "(II)I"⟩
abbrev cS_hang : ByteArray := prog_1_method_5_code
def yS_hang : MethodName := ⟨RS, "hang", "(II)Z"⟩
abbrev cS_hide : ByteArray := prog_1_method_6_code
def yS_hide : MethodName := ⟨RS, "hide", "(IZ)Z"⟩
abbrev cS_camera : ByteArray := prog_1_method_7_code
def yS_camera : MethodName := ⟨RS, "camera", "(IIII)Z"⟩
abbrev cS_seen : ByteArray := prog_1_method_10_code
def yS_seen : MethodName := ⟨RS, "seen", "()I"⟩
abbrev cS_markOpen : ByteArray := prog_1_method_23_code
def yS_markOpen : MethodName := ⟨RS, "markOpen", "()V"⟩
abbrev cS_isSeen : ByteArray := prog_1_method_24_code
def yS_isSeen : MethodName := ⟨RS, "isSeen", "(I)Z"⟩
abbrev cS_inOrder : ByteArray := prog_1_method_11_code
def yS_inOrder : MethodName := ⟨RS, "inOrder", "(I)I"⟩
abbrev cS_putInOrder : ByteArray := prog_1_method_25_code
def yS_putInOrder : MethodName := ⟨RS, "putInOrder", "()I"⟩
abbrev cS_readyWorlds : ByteArray := prog_1_method_22_code
def yS_readyWorlds : MethodName := ⟨RS, "readyWorlds", "(I)V"⟩
abbrev cJ_max_III : ByteArray := prog_6_method_65_code
def yJ_max_III : MethodName := ⟨RJ, "max", "(II)I"⟩
abbrev cS_insert : ByteArray := prog_1_method_26_code
def yS_insert : MethodName := ⟨RS, "insert", "(II)V"⟩
abbrev cS_isDrawnBefore : ByteArray := prog_1_method_27_code
def yS_isDrawnBefore : MethodName := ⟨RS, "isDrawnBefore", "(II)Z"⟩
abbrev cS_count : ByteArray := prog_1_method_13_code
def yS_count : MethodName := ⟨RS, "count", "()I"⟩
abbrev cL_world : ByteArray := method_3_code
def yL_world : MethodName := ⟨RL, "world", "(LSceneTree;III[J)I"⟩
abbrev cS_world : ByteArray := prog_1_method_8_code
def yS_world : MethodName := ⟨RS, "world", "(III)I"⟩
abbrev cS_isCell : ByteArray := prog_1_method_16_code
def yS_isCell : MethodName := ⟨RS, "isCell", "(II)Z"⟩
abbrev cL_model : ByteArray := method_4_code
def yL_model : MethodName := ⟨RL, "model", "(LSceneTree;III[J)I"⟩
abbrev cS_model : ByteArray := prog_1_method_9_code
def yS_model : MethodName := ⟨RS, "model", "(III)I"⟩
abbrev cL_about : ByteArray := method_5_code
def yL_about : MethodName := ⟨RL, "about", "(LSceneTree;II[J)I"⟩
abbrev cS_about : ByteArray := prog_1_method_12_code
def yS_about : MethodName := ⟨RS, "about", "(II)I"⟩
abbrev cM_init : ByteArray := prog_4_method_1_code
def yM_init : MethodName := ⟨RM, "<init>", "()V"⟩
abbrev cM_thrown : ByteArray := prog_4_method_2_code
def yM_thrown : MethodName := ⟨RM, "thrown", "()I"⟩
abbrev cM_add : ByteArray := prog_4_method_4_code
def yM_add : MethodName := ⟨RM, "add", "(II)I"⟩
abbrev cM_clear : ByteArray := prog_4_method_5_code
def yM_clear : MethodName := ⟨RM, "clear", "()V"⟩
abbrev cM_set : ByteArray := prog_4_method_8_code
def yM_set : MethodName := ⟨RM, "set", "(IIIII)Z"⟩
abbrev cM_isNode : ByteArray := prog_4_method_3_code
def yM_isNode : MethodName := ⟨RM, "isNode", "(I)Z"⟩
abbrev cM_lays : ByteArray := prog_4_method_7_code
def yM_lays : MethodName := ⟨RM, "lays", "(IIIII)Z"⟩
abbrev cM_can : ByteArray := prog_4_method_6_code
def yM_can : MethodName := ⟨RM, "can", "(II)Z"⟩
abbrev cM_hang : ByteArray := prog_4_method_9_code
def yM_hang : MethodName := ⟨RM, "hang", "(II)Z"⟩
abbrev cM_hide : ByteArray := prog_4_method_10_code
def yM_hide : MethodName := ⟨RM, "hide", "(IZ)Z"⟩
abbrev cM_camera : ByteArray := prog_4_method_11_code
def yM_camera : MethodName := ⟨RM, "camera", "(IIII)Z"⟩
abbrev cM_world : ByteArray := prog_4_method_24_code
def yM_world : MethodName := ⟨RM, "world", "(III)I"⟩
abbrev cM_isPlace : ByteArray := prog_4_method_23_code
def yM_isPlace : MethodName := ⟨RM, "isPlace", "(III)Z"⟩
abbrev cM_makesWorld : ByteArray := prog_4_method_21_code
def yM_makesWorld : MethodName := ⟨RM, "makesWorld", "(I)V"⟩
abbrev cM_makesLocal : ByteArray := prog_4_method_20_code
def yM_makesLocal : MethodName := ⟨RM, "makesLocal", "(I)V"⟩
abbrev cM_turn : ByteArray := prog_4_method_19_code
def yM_turn : MethodName := ⟨RM, "turn", "(I)V"⟩
abbrev cM_axis : ByteArray := prog_4_method_18_code
def yM_axis : MethodName := ⟨RM, "axis", "([JII)V"⟩
abbrev cM_cos : ByteArray := prog_4_method_15_code
def yM_cos : MethodName := ⟨RM, "cos", "(I)J"⟩
abbrev cM_sin : ByteArray := prog_4_method_14_code
def yM_sin : MethodName := ⟨RM, "sin", "(I)J"⟩
abbrev cM_times : ByteArray := prog_4_method_16_code
def yM_times : MethodName := ⟨RM, "times", "()V"⟩
abbrev cM_mul : ByteArray := prog_4_method_12_code
def yM_mul : MethodName := ⟨RM, "mul", "(JJ)J"⟩
abbrev cM_bound : ByteArray := prog_4_method_13_code
def yM_bound : MethodName := ⟨RM, "bound", "(J)J"⟩
abbrev cM_copy : ByteArray := prog_4_method_17_code
def yM_copy : MethodName := ⟨RM, "copy", "([J[J)V"⟩
abbrev cM_model : ByteArray := prog_4_method_25_code
def yM_model : MethodName := ⟨RM, "model", "(III)I"⟩
abbrev cM_makesModel : ByteArray := prog_4_method_22_code
def yM_makesModel : MethodName := ⟨RM, "makesModel", "(I)V"⟩
abbrev cM_seen : ByteArray := prog_4_method_27_code
def yM_seen : MethodName := ⟨RM, "seen", "()I"⟩
abbrev cM_isSeen : ByteArray := prog_4_method_26_code
def yM_isSeen : MethodName := ⟨RM, "isSeen", "(I)Z"⟩
abbrev cM_inOrder : ByteArray := prog_4_method_29_code
def yM_inOrder : MethodName := ⟨RM, "inOrder", "(I)I"⟩
abbrev cM_isBefore : ByteArray := prog_4_method_28_code
def yM_isBefore : MethodName := ⟨RM, "isBefore", "(II)Z"⟩
abbrev cM_about : ByteArray := prog_4_method_30_code
def yM_about : MethodName := ⟨RM, "about", "(II)I"⟩
abbrev cM_count : ByteArray := prog_4_method_31_code
def yM_count : MethodName := ⟨RM, "count", "()I"⟩
abbrev cL_law : ByteArray := code
def yL_law : MethodName := ⟨RL, "law", "([I)Z"⟩
end
section
theorem dJ_floorDiv_0 : decode cJ_floorDiv 0 = .ok (.lload_n 0, 1) := by decide +kernel
theorem dJ_floorDiv_1 : decode cJ_floorDiv 1 = .ok (.lload_n 2, 1) := by decide +kernel
theorem dJ_floorDiv_2 : decode cJ_floorDiv 2 = .ok (.ldiv, 1) := by decide +kernel
theorem dJ_floorDiv_3 : decode cJ_floorDiv 3 = .ok (.lstore 4, 2) := by decide +kernel
theorem dJ_floorDiv_5 : decode cJ_floorDiv 5 = .ok (.lload_n 0, 1) := by decide +kernel
theorem dJ_floorDiv_6 : decode cJ_floorDiv 6 = .ok (.lload_n 2, 1) := by decide +kernel
theorem dJ_floorDiv_7 : decode cJ_floorDiv 7 = .ok (.lxor, 1) := by decide +kernel
theorem dJ_floorDiv_8 : decode cJ_floorDiv 8 = .ok (.lconst 0, 1) := by decide +kernel
theorem dJ_floorDiv_9 : decode cJ_floorDiv 9 = .ok (.lcmp, 1) := by decide +kernel
theorem dJ_floorDiv_10 : decode cJ_floorDiv 10 = .ok (.ifCond .ge 17, 3) := by decide +kernel
theorem dJ_floorDiv_13 : decode cJ_floorDiv 13 = .ok (.lload 4, 2) := by decide +kernel
theorem dJ_floorDiv_15 : decode cJ_floorDiv 15 = .ok (.lload_n 2, 1) := by decide +kernel
theorem dJ_floorDiv_16 : decode cJ_floorDiv 16 = .ok (.lmul, 1) := by decide +kernel
theorem dJ_floorDiv_17 : decode cJ_floorDiv 17 = .ok (.lload_n 0, 1) := by decide +kernel
theorem dJ_floorDiv_18 : decode cJ_floorDiv 18 = .ok (.lcmp, 1) := by decide +kernel
theorem dJ_floorDiv_19 : decode cJ_floorDiv 19 = .ok (.ifCond .eq 8, 3) := by decide +kernel
theorem dJ_floorDiv_22 : decode cJ_floorDiv 22 = .ok (.lload 4, 2) := by decide +kernel
theorem dJ_floorDiv_24 : decode cJ_floorDiv 24 = .ok (.lconst 1, 1) := by decide +kernel
theorem dJ_floorDiv_25 : decode cJ_floorDiv 25 = .ok (.lsub, 1) := by decide +kernel
theorem dJ_floorDiv_26 : decode cJ_floorDiv 26 = .ok (.lreturn, 1) := by decide +kernel
theorem dJ_floorDiv_27 : decode cJ_floorDiv 27 = .ok (.lload 4, 2) := by decide +kernel
theorem dJ_floorDiv_29 : decode cJ_floorDiv 29 = .ok (.lreturn, 1) := by decide +kernel
theorem dJ_floorMod_0 : decode cJ_floorMod 0 = .ok (.iload_n 0, 1) := by decide +kernel
theorem dJ_floorMod_1 : decode cJ_floorMod 1 = .ok (.iload_n 1, 1) := by decide +kernel
theorem dJ_floorMod_2 : decode cJ_floorMod 2 = .ok (.irem, 1) := by decide +kernel
theorem dJ_floorMod_3 : decode cJ_floorMod 3 = .ok (.istore_n 2, 1) := by decide +kernel
theorem dJ_floorMod_4 : decode cJ_floorMod 4 = .ok (.iload_n 0, 1) := by decide +kernel
theorem dJ_floorMod_5 : decode cJ_floorMod 5 = .ok (.iload_n 1, 1) := by decide +kernel
theorem dJ_floorMod_6 : decode cJ_floorMod 6 = .ok (.ixor, 1) := by decide +kernel
theorem dJ_floorMod_7 : decode cJ_floorMod 7 = .ok (.ifCond .ge 11, 3) := by decide +kernel
theorem dJ_floorMod_10 : decode cJ_floorMod 10 = .ok (.iload_n 2, 1) := by decide +kernel
theorem dJ_floorMod_11 : decode cJ_floorMod 11 = .ok (.ifCond .eq 7, 3) := by decide +kernel
theorem dJ_floorMod_14 : decode cJ_floorMod 14 = .ok (.iload_n 2, 1) := by decide +kernel
theorem dJ_floorMod_15 : decode cJ_floorMod 15 = .ok (.iload_n 1, 1) := by decide +kernel
theorem dJ_floorMod_16 : decode cJ_floorMod 16 = .ok (.iadd, 1) := by decide +kernel
theorem dJ_floorMod_17 : decode cJ_floorMod 17 = .ok (.ireturn, 1) := by decide +kernel
theorem dJ_floorMod_18 : decode cJ_floorMod 18 = .ok (.iload_n 2, 1) := by decide +kernel
theorem dJ_floorMod_19 : decode cJ_floorMod 19 = .ok (.ireturn, 1) := by decide +kernel
theorem dS_init_0 : decode cS_init 0 = .ok (.aload_n 0, 1) := by decide +kernel
theorem dS_init_1 : decode cS_init 1 = .ok (.invokespecial 1, 3) := by decide +kernel
theorem dS_init_4 : decode cS_init 4 = .ok (.aload_n 0, 1) := by decide +kernel
theorem dS_init_5 : decode cS_init 5 = .ok (.iconst 0, 1) := by decide +kernel
theorem dS_init_6 : decode cS_init 6 = .ok (.putfield 7, 3) := by decide +kernel
theorem dS_init_9 : decode cS_init 9 = .ok (.aload_n 0, 1) := by decide +kernel
theorem dS_init_10 : decode cS_init 10 = .ok (.bipush 48, 2) := by decide +kernel
theorem dS_init_12 : decode cS_init 12 = .ok (.newarray .int, 2) := by decide +kernel
theorem dS_init_14 : decode cS_init 14 = .ok (.putfield 13, 3) := by decide +kernel
theorem dS_init_17 : decode cS_init 17 = .ok (.aload_n 0, 1) := by decide +kernel
theorem dS_init_18 : decode cS_init 18 = .ok (.bipush 48, 2) := by decide +kernel
theorem dS_init_20 : decode cS_init 20 = .ok (.newarray .int, 2) := by decide +kernel
theorem dS_init_22 : decode cS_init 22 = .ok (.putfield 17, 3) := by decide +kernel
theorem dS_init_25 : decode cS_init 25 = .ok (.aload_n 0, 1) := by decide +kernel
theorem dS_init_26 : decode cS_init 26 = .ok (.bipush 48, 2) := by decide +kernel
theorem dS_init_28 : decode cS_init 28 = .ok (.newarray .boolean, 2) := by decide +kernel
theorem dS_init_30 : decode cS_init 30 = .ok (.putfield 20, 3) := by decide +kernel
theorem dS_init_33 : decode cS_init 33 = .ok (.aload_n 0, 1) := by decide +kernel
theorem dS_init_34 : decode cS_init 34 = .ok (.bipush 48, 2) := by decide +kernel
theorem dS_init_36 : decode cS_init 36 = .ok (.bipush 9, 2) := by decide +kernel
theorem dS_init_38 : decode cS_init 38 = .ok (.multianewarray 24 2, 4) := by decide +kernel
theorem dS_init_42 : decode cS_init 42 = .ok (.putfield 26, 3) := by decide +kernel
theorem dS_init_45 : decode cS_init 45 = .ok (.aload_n 0, 1) := by decide +kernel
theorem dS_init_46 : decode cS_init 46 = .ok (.bipush 48, 2) := by decide +kernel
theorem dS_init_48 : decode cS_init 48 = .ok (.bipush 12, 2) := by decide +kernel
theorem dS_init_50 : decode cS_init 50 = .ok (.multianewarray 24 2, 4) := by decide +kernel
theorem dS_init_54 : decode cS_init 54 = .ok (.putfield 29, 3) := by decide +kernel
theorem dS_init_57 : decode cS_init 57 = .ok (.aload_n 0, 1) := by decide +kernel
theorem dS_init_58 : decode cS_init 58 = .ok (.bipush 48, 2) := by decide +kernel
theorem dS_init_60 : decode cS_init 60 = .ok (.bipush 12, 2) := by decide +kernel
theorem dS_init_62 : decode cS_init 62 = .ok (.multianewarray 24 2, 4) := by decide +kernel
theorem dS_init_66 : decode cS_init 66 = .ok (.putfield 32, 3) := by decide +kernel
theorem dS_init_69 : decode cS_init 69 = .ok (.aload_n 0, 1) := by decide +kernel
theorem dS_init_70 : decode cS_init 70 = .ok (.iconst 0, 1) := by decide +kernel
theorem dS_init_71 : decode cS_init 71 = .ok (.putfield 35, 3) := by decide +kernel
theorem dS_init_74 : decode cS_init 74 = .ok (.aload_n 0, 1) := by decide +kernel
theorem dS_init_75 : decode cS_init 75 = .ok (.bipush 9, 2) := by decide +kernel
theorem dS_init_77 : decode cS_init 77 = .ok (.newarray .int, 2) := by decide +kernel
theorem dS_init_79 : decode cS_init 79 = .ok (.putfield 38, 3) := by decide +kernel
theorem dS_init_82 : decode cS_init 82 = .ok (.aload_n 0, 1) := by decide +kernel
theorem dS_init_83 : decode cS_init 83 = .ok (.bipush 12, 2) := by decide +kernel
theorem dS_init_85 : decode cS_init 85 = .ok (.newarray .int, 2) := by decide +kernel
theorem dS_init_87 : decode cS_init 87 = .ok (.putfield 41, 3) := by decide +kernel
theorem dS_init_90 : decode cS_init 90 = .ok (.aload_n 0, 1) := by decide +kernel
theorem dS_init_91 : decode cS_init 91 = .ok (.bipush 48, 2) := by decide +kernel
theorem dS_init_93 : decode cS_init 93 = .ok (.newarray .boolean, 2) := by decide +kernel
theorem dS_init_95 : decode cS_init 95 = .ok (.putfield 44, 3) := by decide +kernel
theorem dS_init_98 : decode cS_init 98 = .ok (.aload_n 0, 1) := by decide +kernel
theorem dS_init_99 : decode cS_init 99 = .ok (.bipush 48, 2) := by decide +kernel
theorem dS_init_101 : decode cS_init 101 = .ok (.newarray .int, 2) := by decide +kernel
theorem dS_init_103 : decode cS_init 103 = .ok (.putfield 47, 3) := by decide +kernel
theorem dS_init_106 : decode cS_init 106 = .ok (.aload_n 0, 1) := by decide +kernel
theorem dS_init_107 : decode cS_init 107 = .ok (.bipush 48, 2) := by decide +kernel
theorem dS_init_109 : decode cS_init 109 = .ok (.newarray .int, 2) := by decide +kernel
theorem dS_init_111 : decode cS_init 111 = .ok (.putfield 50, 3) := by decide +kernel
theorem dS_init_114 : decode cS_init 114 = .ok (.aload_n 0, 1) := by decide +kernel
theorem dS_init_115 : decode cS_init 115 = .ok (.new 53, 3) := by decide +kernel
theorem dS_init_118 : decode cS_init 118 = .ok (.dup, 1) := by decide +kernel
theorem dS_init_119 : decode cS_init 119 = .ok (.invokespecial 55, 3) := by decide +kernel
theorem dS_init_122 : decode cS_init 122 = .ok (.putfield 56, 3) := by decide +kernel
theorem dS_init_125 : decode cS_init 125 = .ok (.aload_n 0, 1) := by decide +kernel
theorem dS_init_126 : decode cS_init 126 = .ok (.invokevirtual 60, 3) := by decide +kernel
theorem dS_init_129 : decode cS_init 129 = .ok (.return_, 1) := by decide +kernel
theorem dT_init_0 : decode cT_init 0 = .ok (.aload_n 0, 1) := by decide +kernel
theorem dT_init_1 : decode cT_init 1 = .ok (.invokespecial 3, 3) := by decide +kernel
theorem dT_init_4 : decode cT_init 4 = .ok (.aload_n 0, 1) := by decide +kernel
theorem dT_init_5 : decode cT_init 5 = .ok (.bipush 12, 2) := by decide +kernel
theorem dT_init_7 : decode cT_init 7 = .ok (.newarray .int, 2) := by decide +kernel
theorem dT_init_9 : decode cT_init 9 = .ok (.putfield 9, 3) := by decide +kernel
theorem dT_init_12 : decode cT_init 12 = .ok (.aload_n 0, 1) := by decide +kernel
theorem dT_init_13 : decode cT_init 13 = .ok (.bipush 12, 2) := by decide +kernel
theorem dT_init_15 : decode cT_init 15 = .ok (.newarray .int, 2) := by decide +kernel
theorem dT_init_17 : decode cT_init 17 = .ok (.putfield 15, 3) := by decide +kernel
theorem dT_init_20 : decode cT_init 20 = .ok (.aload_n 0, 1) := by decide +kernel
theorem dT_init_21 : decode cT_init 21 = .ok (.bipush 12, 2) := by decide +kernel
theorem dT_init_23 : decode cT_init 23 = .ok (.newarray .int, 2) := by decide +kernel
theorem dT_init_25 : decode cT_init 25 = .ok (.putfield 18, 3) := by decide +kernel
theorem dT_init_28 : decode cT_init 28 = .ok (.aload_n 0, 1) := by decide +kernel
theorem dT_init_29 : decode cT_init 29 = .ok (.bipush 12, 2) := by decide +kernel
theorem dT_init_31 : decode cT_init 31 = .ok (.newarray .int, 2) := by decide +kernel
theorem dT_init_33 : decode cT_init 33 = .ok (.putfield 21, 3) := by decide +kernel
theorem dT_init_36 : decode cT_init 36 = .ok (.aload_n 0, 1) := by decide +kernel
theorem dT_init_37 : decode cT_init 37 = .ok (.bipush 12, 2) := by decide +kernel
theorem dT_init_39 : decode cT_init 39 = .ok (.newarray .int, 2) := by decide +kernel
theorem dT_init_41 : decode cT_init 41 = .ok (.putfield 24, 3) := by decide +kernel
theorem dT_init_44 : decode cT_init 44 = .ok (.return_, 1) := by decide +kernel
theorem dS_refreshView_0 : decode cS_refreshView 0 = .ok (.aload_n 0, 1) := by decide +kernel
theorem dS_refreshView_1 : decode cS_refreshView 1 = .ok (.getfield 56, 3) := by decide +kernel
theorem dS_refreshView_4 : decode cS_refreshView 4 = .ok (.aload_n 0, 1) := by decide +kernel
theorem dS_refreshView_5 : decode cS_refreshView 5 = .ok (.getfield 38, 3) := by decide +kernel
theorem dS_refreshView_8 : decode cS_refreshView 8 = .ok (.invokevirtual 118, 3) := by decide +kernel
theorem dS_refreshView_11 : decode cS_refreshView 11 = .ok (.astore_n 1, 1) := by decide +kernel
theorem dS_refreshView_12 : decode cS_refreshView 12 = .ok (.iconst 0, 1) := by decide +kernel
theorem dS_refreshView_13 : decode cS_refreshView 13 = .ok (.istore_n 2, 1) := by decide +kernel
theorem dS_refreshView_14 : decode cS_refreshView 14 = .ok (.iload_n 2, 1) := by decide +kernel
theorem dS_refreshView_15 : decode cS_refreshView 15 = .ok (.iconst 3, 1) := by decide +kernel
theorem dS_refreshView_16 : decode cS_refreshView 16 = .ok (.if_icmp .ge 88, 3) := by decide +kernel
theorem dS_refreshView_19 : decode cS_refreshView 19 = .ok (.lconst 0, 1) := by decide +kernel
theorem dS_refreshView_20 : decode cS_refreshView 20 = .ok (.lstore_n 3, 1) := by decide +kernel
theorem dS_refreshView_21 : decode cS_refreshView 21 = .ok (.iconst 0, 1) := by decide +kernel
theorem dS_refreshView_22 : decode cS_refreshView 22 = .ok (.istore 5, 2) := by decide +kernel
theorem dS_refreshView_24 : decode cS_refreshView 24 = .ok (.iload 5, 2) := by decide +kernel
theorem dS_refreshView_26 : decode cS_refreshView 26 = .ok (.iconst 3, 1) := by decide +kernel
theorem dS_refreshView_27 : decode cS_refreshView 27 = .ok (.if_icmp .ge 56, 3) := by decide +kernel
theorem dS_refreshView_30 : decode cS_refreshView 30 = .ok (.iconst 4, 1) := by decide +kernel
theorem dS_refreshView_31 : decode cS_refreshView 31 = .ok (.iload_n 2, 1) := by decide +kernel
theorem dS_refreshView_32 : decode cS_refreshView 32 = .ok (.imul, 1) := by decide +kernel
theorem dS_refreshView_33 : decode cS_refreshView 33 = .ok (.iload 5, 2) := by decide +kernel
theorem dS_refreshView_35 : decode cS_refreshView 35 = .ok (.iadd, 1) := by decide +kernel
theorem dS_refreshView_36 : decode cS_refreshView 36 = .ok (.istore 6, 2) := by decide +kernel
theorem dS_refreshView_38 : decode cS_refreshView 38 = .ok (.aload_n 0, 1) := by decide +kernel
theorem dS_refreshView_39 : decode cS_refreshView 39 = .ok (.getfield 41, 3) := by decide +kernel
theorem dS_refreshView_42 : decode cS_refreshView 42 = .ok (.iload 6, 2) := by decide +kernel
theorem dS_refreshView_44 : decode cS_refreshView 44 = .ok (.aload_n 1, 1) := by decide +kernel
theorem dS_refreshView_45 : decode cS_refreshView 45 = .ok (.iconst 4, 1) := by decide +kernel
theorem dS_refreshView_46 : decode cS_refreshView 46 = .ok (.iload 5, 2) := by decide +kernel
theorem dS_refreshView_48 : decode cS_refreshView 48 = .ok (.imul, 1) := by decide +kernel
theorem dS_refreshView_49 : decode cS_refreshView 49 = .ok (.iload_n 2, 1) := by decide +kernel
theorem dS_refreshView_50 : decode cS_refreshView 50 = .ok (.iadd, 1) := by decide +kernel
theorem dS_refreshView_51 : decode cS_refreshView 51 = .ok (.iaload, 1) := by decide +kernel
theorem dS_refreshView_52 : decode cS_refreshView 52 = .ok (.iastore, 1) := by decide +kernel
theorem dS_refreshView_53 : decode cS_refreshView 53 = .ok (.lload_n 3, 1) := by decide +kernel
theorem dS_refreshView_54 : decode cS_refreshView 54 = .ok (.aload_n 0, 1) := by decide +kernel
theorem dS_refreshView_55 : decode cS_refreshView 55 = .ok (.getfield 41, 3) := by decide +kernel
theorem dS_refreshView_58 : decode cS_refreshView 58 = .ok (.iload 6, 2) := by decide +kernel
theorem dS_refreshView_60 : decode cS_refreshView 60 = .ok (.iaload, 1) := by decide +kernel
theorem dS_refreshView_61 : decode cS_refreshView 61 = .ok (.i2l, 1) := by decide +kernel
theorem dS_refreshView_62 : decode cS_refreshView 62 = .ok (.aload_n 0, 1) := by decide +kernel
theorem dS_refreshView_63 : decode cS_refreshView 63 = .ok (.getfield 38, 3) := by decide +kernel
theorem dS_refreshView_66 : decode cS_refreshView 66 = .ok (.iconst 0, 1) := by decide +kernel
theorem dS_refreshView_67 : decode cS_refreshView 67 = .ok (.iload 5, 2) := by decide +kernel
theorem dS_refreshView_69 : decode cS_refreshView 69 = .ok (.iadd, 1) := by decide +kernel
theorem dS_refreshView_70 : decode cS_refreshView 70 = .ok (.iaload, 1) := by decide +kernel
theorem dS_refreshView_71 : decode cS_refreshView 71 = .ok (.i2l, 1) := by decide +kernel
theorem dS_refreshView_72 : decode cS_refreshView 72 = .ok (.invokestatic 122, 3) := by decide +kernel
theorem dS_refreshView_75 : decode cS_refreshView 75 = .ok (.ladd, 1) := by decide +kernel
theorem dS_refreshView_76 : decode cS_refreshView 76 = .ok (.lstore_n 3, 1) := by decide +kernel
theorem dS_refreshView_77 : decode cS_refreshView 77 = .ok (.iinc 5 1, 3) := by decide +kernel
theorem dS_refreshView_80 : decode cS_refreshView 80 = .ok (.goto (-56), 3) := by decide +kernel
theorem dS_refreshView_83 : decode cS_refreshView 83 = .ok (.aload_n 0, 1) := by decide +kernel
theorem dS_refreshView_84 : decode cS_refreshView 84 = .ok (.getfield 41, 3) := by decide +kernel
theorem dS_refreshView_87 : decode cS_refreshView 87 = .ok (.iconst 4, 1) := by decide +kernel
theorem dS_refreshView_88 : decode cS_refreshView 88 = .ok (.iload_n 2, 1) := by decide +kernel
theorem dS_refreshView_89 : decode cS_refreshView 89 = .ok (.imul, 1) := by decide +kernel
theorem dS_refreshView_90 : decode cS_refreshView 90 = .ok (.iconst 3, 1) := by decide +kernel
theorem dS_refreshView_91 : decode cS_refreshView 91 = .ok (.iadd, 1) := by decide +kernel
theorem dS_refreshView_92 : decode cS_refreshView 92 = .ok (.lload_n 3, 1) := by decide +kernel
theorem dS_refreshView_93 : decode cS_refreshView 93 = .ok (.lneg, 1) := by decide +kernel
theorem dS_refreshView_94 : decode cS_refreshView 94 = .ok (.invokestatic 126, 3) := by decide +kernel
theorem dS_refreshView_97 : decode cS_refreshView 97 = .ok (.iastore, 1) := by decide +kernel
theorem dS_refreshView_98 : decode cS_refreshView 98 = .ok (.iinc 2 1, 3) := by decide +kernel
theorem dS_refreshView_101 : decode cS_refreshView 101 = .ok (.goto (-87), 3) := by decide +kernel
theorem dS_refreshView_104 : decode cS_refreshView 104 = .ok (.return_, 1) := by decide +kernel
theorem dT_turnOf_0 : decode cT_turnOf 0 = .ok (.aload_n 0, 1) := by decide +kernel
theorem dT_turnOf_1 : decode cT_turnOf 1 = .ok (.getfield 9, 3) := by decide +kernel
theorem dT_turnOf_4 : decode cT_turnOf 4 = .ok (.iconst 1, 1) := by decide +kernel
theorem dT_turnOf_5 : decode cT_turnOf 5 = .ok (.iconst 2, 1) := by decide +kernel
theorem dT_turnOf_6 : decode cT_turnOf 6 = .ok (.aload_n 1, 1) := by decide +kernel
theorem dT_turnOf_7 : decode cT_turnOf 7 = .ok (.iconst 3, 1) := by decide +kernel
theorem dT_turnOf_8 : decode cT_turnOf 8 = .ok (.iaload, 1) := by decide +kernel
theorem dT_turnOf_9 : decode cT_turnOf 9 = .ok (.invokestatic 27, 3) := by decide +kernel
theorem dT_turnOf_12 : decode cT_turnOf 12 = .ok (.aload_n 0, 1) := by decide +kernel
theorem dT_turnOf_13 : decode cT_turnOf 13 = .ok (.getfield 15, 3) := by decide +kernel
theorem dT_turnOf_16 : decode cT_turnOf 16 = .ok (.iconst 2, 1) := by decide +kernel
theorem dT_turnOf_17 : decode cT_turnOf 17 = .ok (.iconst 0, 1) := by decide +kernel
theorem dT_turnOf_18 : decode cT_turnOf 18 = .ok (.aload_n 1, 1) := by decide +kernel
theorem dT_turnOf_19 : decode cT_turnOf 19 = .ok (.iconst 4, 1) := by decide +kernel
theorem dT_turnOf_20 : decode cT_turnOf 20 = .ok (.iaload, 1) := by decide +kernel
theorem dT_turnOf_21 : decode cT_turnOf 21 = .ok (.invokestatic 27, 3) := by decide +kernel
theorem dT_turnOf_24 : decode cT_turnOf 24 = .ok (.aload_n 0, 1) := by decide +kernel
theorem dT_turnOf_25 : decode cT_turnOf 25 = .ok (.getfield 18, 3) := by decide +kernel
theorem dT_turnOf_28 : decode cT_turnOf 28 = .ok (.iconst 0, 1) := by decide +kernel
theorem dT_turnOf_29 : decode cT_turnOf 29 = .ok (.iconst 1, 1) := by decide +kernel
theorem dT_turnOf_30 : decode cT_turnOf 30 = .ok (.aload_n 1, 1) := by decide +kernel
theorem dT_turnOf_31 : decode cT_turnOf 31 = .ok (.iconst 5, 1) := by decide +kernel
theorem dT_turnOf_32 : decode cT_turnOf 32 = .ok (.iaload, 1) := by decide +kernel
theorem dT_turnOf_33 : decode cT_turnOf 33 = .ok (.invokestatic 27, 3) := by decide +kernel
theorem dT_turnOf_36 : decode cT_turnOf 36 = .ok (.aload_n 0, 1) := by decide +kernel
theorem dT_turnOf_37 : decode cT_turnOf 37 = .ok (.getfield 15, 3) := by decide +kernel
theorem dT_turnOf_40 : decode cT_turnOf 40 = .ok (.aload_n 0, 1) := by decide +kernel
theorem dT_turnOf_41 : decode cT_turnOf 41 = .ok (.getfield 9, 3) := by decide +kernel
theorem dT_turnOf_44 : decode cT_turnOf 44 = .ok (.aload_n 0, 1) := by decide +kernel
theorem dT_turnOf_45 : decode cT_turnOf 45 = .ok (.getfield 21, 3) := by decide +kernel
theorem dT_turnOf_48 : decode cT_turnOf 48 = .ok (.invokestatic 31, 3) := by decide +kernel
theorem dT_turnOf_51 : decode cT_turnOf 51 = .ok (.aload_n 0, 1) := by decide +kernel
theorem dT_turnOf_52 : decode cT_turnOf 52 = .ok (.getfield 21, 3) := by decide +kernel
theorem dT_turnOf_55 : decode cT_turnOf 55 = .ok (.aload_n 0, 1) := by decide +kernel
theorem dT_turnOf_56 : decode cT_turnOf 56 = .ok (.getfield 18, 3) := by decide +kernel
theorem dT_turnOf_59 : decode cT_turnOf 59 = .ok (.aload_n 0, 1) := by decide +kernel
theorem dT_turnOf_60 : decode cT_turnOf 60 = .ok (.getfield 24, 3) := by decide +kernel
theorem dT_turnOf_63 : decode cT_turnOf 63 = .ok (.invokestatic 31, 3) := by decide +kernel
theorem dT_turnOf_66 : decode cT_turnOf 66 = .ok (.aload_n 0, 1) := by decide +kernel
theorem dT_turnOf_67 : decode cT_turnOf 67 = .ok (.getfield 24, 3) := by decide +kernel
theorem dT_turnOf_70 : decode cT_turnOf 70 = .ok (.areturn, 1) := by decide +kernel
theorem dT_spin_0 : decode cT_spin 0 = .ok (.iconst 3, 1) := by decide +kernel
theorem dT_spin_1 : decode cT_spin 1 = .ok (.iload_n 1, 1) := by decide +kernel
theorem dT_spin_2 : decode cT_spin 2 = .ok (.isub, 1) := by decide +kernel
theorem dT_spin_3 : decode cT_spin 3 = .ok (.iload_n 2, 1) := by decide +kernel
theorem dT_spin_4 : decode cT_spin 4 = .ok (.isub, 1) := by decide +kernel
theorem dT_spin_5 : decode cT_spin 5 = .ok (.istore 4, 2) := by decide +kernel
theorem dT_spin_7 : decode cT_spin 7 = .ok (.iload_n 3, 1) := by decide +kernel
theorem dT_spin_8 : decode cT_spin 8 = .ok (.invokestatic 35, 3) := by decide +kernel
theorem dT_spin_11 : decode cT_spin 11 = .ok (.istore 5, 2) := by decide +kernel
theorem dT_spin_13 : decode cT_spin 13 = .ok (.iload_n 3, 1) := by decide +kernel
theorem dT_spin_14 : decode cT_spin 14 = .ok (.sipush 1024, 3) := by decide +kernel
theorem dT_spin_17 : decode cT_spin 17 = .ok (.iadd, 1) := by decide +kernel
theorem dT_spin_18 : decode cT_spin 18 = .ok (.invokestatic 35, 3) := by decide +kernel
theorem dT_spin_21 : decode cT_spin 21 = .ok (.istore 6, 2) := by decide +kernel
theorem dT_spin_23 : decode cT_spin 23 = .ok (.aload_n 0, 1) := by decide +kernel
theorem dT_spin_24 : decode cT_spin 24 = .ok (.iconst 4, 1) := by decide +kernel
theorem dT_spin_25 : decode cT_spin 25 = .ok (.iload 4, 2) := by decide +kernel
theorem dT_spin_27 : decode cT_spin 27 = .ok (.imul, 1) := by decide +kernel
theorem dT_spin_28 : decode cT_spin 28 = .ok (.iload 4, 2) := by decide +kernel
theorem dT_spin_30 : decode cT_spin 30 = .ok (.iadd, 1) := by decide +kernel
theorem dT_spin_31 : decode cT_spin 31 = .ok (.ldc 39, 2) := by decide +kernel
theorem dT_spin_33 : decode cT_spin 33 = .ok (.iastore, 1) := by decide +kernel
theorem dT_spin_34 : decode cT_spin 34 = .ok (.aload_n 0, 1) := by decide +kernel
theorem dT_spin_35 : decode cT_spin 35 = .ok (.iconst 4, 1) := by decide +kernel
theorem dT_spin_36 : decode cT_spin 36 = .ok (.iload_n 1, 1) := by decide +kernel
theorem dT_spin_37 : decode cT_spin 37 = .ok (.imul, 1) := by decide +kernel
theorem dT_spin_38 : decode cT_spin 38 = .ok (.iload_n 1, 1) := by decide +kernel
theorem dT_spin_39 : decode cT_spin 39 = .ok (.iadd, 1) := by decide +kernel
theorem dT_spin_40 : decode cT_spin 40 = .ok (.iload 6, 2) := by decide +kernel
theorem dT_spin_42 : decode cT_spin 42 = .ok (.iastore, 1) := by decide +kernel
theorem dT_spin_43 : decode cT_spin 43 = .ok (.aload_n 0, 1) := by decide +kernel
theorem dT_spin_44 : decode cT_spin 44 = .ok (.iconst 4, 1) := by decide +kernel
theorem dT_spin_45 : decode cT_spin 45 = .ok (.iload_n 1, 1) := by decide +kernel
theorem dT_spin_46 : decode cT_spin 46 = .ok (.imul, 1) := by decide +kernel
theorem dT_spin_47 : decode cT_spin 47 = .ok (.iload_n 2, 1) := by decide +kernel
theorem dT_spin_48 : decode cT_spin 48 = .ok (.iadd, 1) := by decide +kernel
theorem dT_spin_49 : decode cT_spin 49 = .ok (.iload 5, 2) := by decide +kernel
theorem dT_spin_51 : decode cT_spin 51 = .ok (.ineg, 1) := by decide +kernel
theorem dT_spin_52 : decode cT_spin 52 = .ok (.iastore, 1) := by decide +kernel
theorem dT_spin_53 : decode cT_spin 53 = .ok (.aload_n 0, 1) := by decide +kernel
theorem dT_spin_54 : decode cT_spin 54 = .ok (.iconst 4, 1) := by decide +kernel
theorem dT_spin_55 : decode cT_spin 55 = .ok (.iload_n 2, 1) := by decide +kernel
theorem dT_spin_56 : decode cT_spin 56 = .ok (.imul, 1) := by decide +kernel
theorem dT_spin_57 : decode cT_spin 57 = .ok (.iload_n 1, 1) := by decide +kernel
theorem dT_spin_58 : decode cT_spin 58 = .ok (.iadd, 1) := by decide +kernel
theorem dT_spin_59 : decode cT_spin 59 = .ok (.iload 5, 2) := by decide +kernel
theorem dT_spin_61 : decode cT_spin 61 = .ok (.iastore, 1) := by decide +kernel
theorem dT_spin_62 : decode cT_spin 62 = .ok (.aload_n 0, 1) := by decide +kernel
theorem dT_spin_63 : decode cT_spin 63 = .ok (.iconst 4, 1) := by decide +kernel
theorem dT_spin_64 : decode cT_spin 64 = .ok (.iload_n 2, 1) := by decide +kernel
theorem dT_spin_65 : decode cT_spin 65 = .ok (.imul, 1) := by decide +kernel
theorem dT_spin_66 : decode cT_spin 66 = .ok (.iload_n 2, 1) := by decide +kernel
theorem dT_spin_67 : decode cT_spin 67 = .ok (.iadd, 1) := by decide +kernel
theorem dT_spin_68 : decode cT_spin 68 = .ok (.iload 6, 2) := by decide +kernel
theorem dT_spin_70 : decode cT_spin 70 = .ok (.iastore, 1) := by decide +kernel
theorem dT_spin_71 : decode cT_spin 71 = .ok (.return_, 1) := by decide +kernel
theorem dS_sine_0 : decode cS_sine 0 = .ok (.iload_n 0, 1) := by decide +kernel
theorem dS_sine_1 : decode cS_sine 1 = .ok (.sipush 4096, 3) := by decide +kernel
theorem dS_sine_4 : decode cS_sine 4 = .ok (.invokestatic 158, 3) := by decide +kernel
theorem dS_sine_7 : decode cS_sine 7 = .ok (.istore_n 1, 1) := by decide +kernel
theorem dS_sine_8 : decode cS_sine 8 = .ok (.iload_n 1, 1) := by decide +kernel
theorem dS_sine_9 : decode cS_sine 9 = .ok (.sipush 2048, 3) := by decide +kernel
theorem dS_sine_12 : decode cS_sine 12 = .ok (.if_icmp .ge 7, 3) := by decide +kernel
theorem dS_sine_15 : decode cS_sine 15 = .ok (.iload_n 1, 1) := by decide +kernel
theorem dS_sine_16 : decode cS_sine 16 = .ok (.goto 8, 3) := by decide +kernel
theorem dS_sine_19 : decode cS_sine 19 = .ok (.iload_n 1, 1) := by decide +kernel
theorem dS_sine_20 : decode cS_sine 20 = .ok (.sipush 2048, 3) := by decide +kernel
theorem dS_sine_23 : decode cS_sine 23 = .ok (.isub, 1) := by decide +kernel
theorem dS_sine_24 : decode cS_sine 24 = .ok (.istore_n 2, 1) := by decide +kernel
theorem dS_sine_25 : decode cS_sine 25 = .ok (.iload_n 2, 1) := by decide +kernel
theorem dS_sine_26 : decode cS_sine 26 = .ok (.i2l, 1) := by decide +kernel
theorem dS_sine_27 : decode cS_sine 27 = .ok (.sipush 2048, 3) := by decide +kernel
theorem dS_sine_30 : decode cS_sine 30 = .ok (.iload_n 2, 1) := by decide +kernel
theorem dS_sine_31 : decode cS_sine 31 = .ok (.isub, 1) := by decide +kernel
theorem dS_sine_32 : decode cS_sine 32 = .ok (.i2l, 1) := by decide +kernel
theorem dS_sine_33 : decode cS_sine 33 = .ok (.lmul, 1) := by decide +kernel
theorem dS_sine_34 : decode cS_sine 34 = .ok (.lstore_n 3, 1) := by decide +kernel
theorem dS_sine_35 : decode cS_sine 35 = .ok (.ldc2_w 161, 3) := by decide +kernel
theorem dS_sine_38 : decode cS_sine 38 = .ok (.ldc2_w 163, 3) := by decide +kernel
theorem dS_sine_41 : decode cS_sine 41 = .ok (.lload_n 3, 1) := by decide +kernel
theorem dS_sine_42 : decode cS_sine 42 = .ok (.lmul, 1) := by decide +kernel
theorem dS_sine_43 : decode cS_sine 43 = .ok (.lsub, 1) := by decide +kernel
theorem dS_sine_44 : decode cS_sine 44 = .ok (.lstore 5, 2) := by decide +kernel
theorem dS_sine_46 : decode cS_sine 46 = .ok (.lload 5, 2) := by decide +kernel
theorem dS_sine_48 : decode cS_sine 48 = .ok (.lconst 0, 1) := by decide +kernel
theorem dS_sine_49 : decode cS_sine 49 = .ok (.lcmp, 1) := by decide +kernel
theorem dS_sine_50 : decode cS_sine 50 = .ok (.ifCond .le 16, 3) := by decide +kernel
theorem dS_sine_53 : decode cS_sine 53 = .ok (.ldc2_w 165, 3) := by decide +kernel
theorem dS_sine_56 : decode cS_sine 56 = .ok (.lload_n 3, 1) := by decide +kernel
theorem dS_sine_57 : decode cS_sine 57 = .ok (.lmul, 1) := by decide +kernel
theorem dS_sine_58 : decode cS_sine 58 = .ok (.lload 5, 2) := by decide +kernel
theorem dS_sine_60 : decode cS_sine 60 = .ok (.invokestatic 167, 3) := by decide +kernel
theorem dS_sine_63 : decode cS_sine 63 = .ok (.goto 4, 3) := by decide +kernel
theorem dS_sine_66 : decode cS_sine 66 = .ok (.lconst 0, 1) := by decide +kernel
theorem dS_sine_67 : decode cS_sine 67 = .ok (.lstore 7, 2) := by decide +kernel
theorem dS_sine_69 : decode cS_sine 69 = .ok (.iload_n 1, 1) := by decide +kernel
theorem dS_sine_70 : decode cS_sine 70 = .ok (.sipush 2048, 3) := by decide +kernel
theorem dS_sine_73 : decode cS_sine 73 = .ok (.if_icmp .ge 8, 3) := by decide +kernel
theorem dS_sine_76 : decode cS_sine 76 = .ok (.lload 7, 2) := by decide +kernel
theorem dS_sine_78 : decode cS_sine 78 = .ok (.goto 6, 3) := by decide +kernel
theorem dS_sine_81 : decode cS_sine 81 = .ok (.lload 7, 2) := by decide +kernel
theorem dS_sine_83 : decode cS_sine 83 = .ok (.lneg, 1) := by decide +kernel
theorem dS_sine_84 : decode cS_sine 84 = .ok (.l2i, 1) := by decide +kernel
theorem dS_sine_85 : decode cS_sine 85 = .ok (.ireturn, 1) := by decide +kernel
theorem dS_multiply_0 : decode cS_multiply 0 = .ok (.iconst 0, 1) := by decide +kernel
theorem dS_multiply_1 : decode cS_multiply 1 = .ok (.istore_n 3, 1) := by decide +kernel
theorem dS_multiply_2 : decode cS_multiply 2 = .ok (.iload_n 3, 1) := by decide +kernel
theorem dS_multiply_3 : decode cS_multiply 3 = .ok (.iconst 3, 1) := by decide +kernel
theorem dS_multiply_4 : decode cS_multiply 4 = .ok (.if_icmp .ge 40, 3) := by decide +kernel
theorem dS_multiply_7 : decode cS_multiply 7 = .ok (.iconst 0, 1) := by decide +kernel
theorem dS_multiply_8 : decode cS_multiply 8 = .ok (.istore 4, 2) := by decide +kernel
theorem dS_multiply_10 : decode cS_multiply 10 = .ok (.iload 4, 2) := by decide +kernel
theorem dS_multiply_12 : decode cS_multiply 12 = .ok (.iconst 4, 1) := by decide +kernel
theorem dS_multiply_13 : decode cS_multiply 13 = .ok (.if_icmp .ge 25, 3) := by decide +kernel
theorem dS_multiply_16 : decode cS_multiply 16 = .ok (.aload_n 2, 1) := by decide +kernel
theorem dS_multiply_17 : decode cS_multiply 17 = .ok (.iconst 4, 1) := by decide +kernel
theorem dS_multiply_18 : decode cS_multiply 18 = .ok (.iload_n 3, 1) := by decide +kernel
theorem dS_multiply_19 : decode cS_multiply 19 = .ok (.imul, 1) := by decide +kernel
theorem dS_multiply_20 : decode cS_multiply 20 = .ok (.iload 4, 2) := by decide +kernel
theorem dS_multiply_22 : decode cS_multiply 22 = .ok (.iadd, 1) := by decide +kernel
theorem dS_multiply_23 : decode cS_multiply 23 = .ok (.aload_n 0, 1) := by decide +kernel
theorem dS_multiply_24 : decode cS_multiply 24 = .ok (.aload_n 1, 1) := by decide +kernel
theorem dS_multiply_25 : decode cS_multiply 25 = .ok (.iload_n 3, 1) := by decide +kernel
theorem dS_multiply_26 : decode cS_multiply 26 = .ok (.iload 4, 2) := by decide +kernel
theorem dS_multiply_28 : decode cS_multiply 28 = .ok (.invokestatic 99, 3) := by decide +kernel
theorem dS_multiply_31 : decode cS_multiply 31 = .ok (.iastore, 1) := by decide +kernel
theorem dS_multiply_32 : decode cS_multiply 32 = .ok (.iinc 4 1, 3) := by decide +kernel
theorem dS_multiply_35 : decode cS_multiply 35 = .ok (.goto (-25), 3) := by decide +kernel
theorem dS_multiply_38 : decode cS_multiply 38 = .ok (.iinc 3 1, 3) := by decide +kernel
theorem dS_multiply_41 : decode cS_multiply 41 = .ok (.goto (-39), 3) := by decide +kernel
theorem dS_multiply_44 : decode cS_multiply 44 = .ok (.return_, 1) := by decide +kernel
theorem dS_productAt_0 : decode cS_productAt 0 = .ok (.iconst 4, 1) := by decide +kernel
theorem dS_productAt_1 : decode cS_productAt 1 = .ok (.iload_n 2, 1) := by decide +kernel
theorem dS_productAt_2 : decode cS_productAt 2 = .ok (.imul, 1) := by decide +kernel
theorem dS_productAt_3 : decode cS_productAt 3 = .ok (.istore 4, 2) := by decide +kernel
theorem dS_productAt_5 : decode cS_productAt 5 = .ok (.aload_n 0, 1) := by decide +kernel
theorem dS_productAt_6 : decode cS_productAt 6 = .ok (.iload 4, 2) := by decide +kernel
theorem dS_productAt_8 : decode cS_productAt 8 = .ok (.iaload, 1) := by decide +kernel
theorem dS_productAt_9 : decode cS_productAt 9 = .ok (.i2l, 1) := by decide +kernel
theorem dS_productAt_10 : decode cS_productAt 10 = .ok (.aload_n 1, 1) := by decide +kernel
theorem dS_productAt_11 : decode cS_productAt 11 = .ok (.iload_n 3, 1) := by decide +kernel
theorem dS_productAt_12 : decode cS_productAt 12 = .ok (.iaload, 1) := by decide +kernel
theorem dS_productAt_13 : decode cS_productAt 13 = .ok (.i2l, 1) := by decide +kernel
theorem dS_productAt_14 : decode cS_productAt 14 = .ok (.invokestatic 122, 3) := by decide +kernel
theorem dS_productAt_17 : decode cS_productAt 17 = .ok (.aload_n 0, 1) := by decide +kernel
theorem dS_productAt_18 : decode cS_productAt 18 = .ok (.iload 4, 2) := by decide +kernel
theorem dS_productAt_20 : decode cS_productAt 20 = .ok (.iconst 1, 1) := by decide +kernel
theorem dS_productAt_21 : decode cS_productAt 21 = .ok (.iadd, 1) := by decide +kernel
theorem dS_productAt_22 : decode cS_productAt 22 = .ok (.iaload, 1) := by decide +kernel
theorem dS_productAt_23 : decode cS_productAt 23 = .ok (.i2l, 1) := by decide +kernel
theorem dS_productAt_24 : decode cS_productAt 24 = .ok (.aload_n 1, 1) := by decide +kernel
theorem dS_productAt_25 : decode cS_productAt 25 = .ok (.iconst 4, 1) := by decide +kernel
theorem dS_productAt_26 : decode cS_productAt 26 = .ok (.iload_n 3, 1) := by decide +kernel
theorem dS_productAt_27 : decode cS_productAt 27 = .ok (.iadd, 1) := by decide +kernel
theorem dS_productAt_28 : decode cS_productAt 28 = .ok (.iaload, 1) := by decide +kernel
theorem dS_productAt_29 : decode cS_productAt 29 = .ok (.i2l, 1) := by decide +kernel
theorem dS_productAt_30 : decode cS_productAt 30 = .ok (.invokestatic 122, 3) := by decide +kernel
theorem dS_productAt_33 : decode cS_productAt 33 = .ok (.ladd, 1) := by decide +kernel
theorem dS_productAt_34 : decode cS_productAt 34 = .ok (.aload_n 0, 1) := by decide +kernel
theorem dS_productAt_35 : decode cS_productAt 35 = .ok (.iload 4, 2) := by decide +kernel
theorem dS_productAt_37 : decode cS_productAt 37 = .ok (.iconst 2, 1) := by decide +kernel
theorem dS_productAt_38 : decode cS_productAt 38 = .ok (.iadd, 1) := by decide +kernel
theorem dS_productAt_39 : decode cS_productAt 39 = .ok (.iaload, 1) := by decide +kernel
theorem dS_productAt_40 : decode cS_productAt 40 = .ok (.i2l, 1) := by decide +kernel
theorem dS_productAt_41 : decode cS_productAt 41 = .ok (.aload_n 1, 1) := by decide +kernel
theorem dS_productAt_42 : decode cS_productAt 42 = .ok (.bipush 8, 2) := by decide +kernel
theorem dS_productAt_44 : decode cS_productAt 44 = .ok (.iload_n 3, 1) := by decide +kernel
theorem dS_productAt_45 : decode cS_productAt 45 = .ok (.iadd, 1) := by decide +kernel
theorem dS_productAt_46 : decode cS_productAt 46 = .ok (.iaload, 1) := by decide +kernel
theorem dS_productAt_47 : decode cS_productAt 47 = .ok (.i2l, 1) := by decide +kernel
theorem dS_productAt_48 : decode cS_productAt 48 = .ok (.invokestatic 122, 3) := by decide +kernel
theorem dS_productAt_51 : decode cS_productAt 51 = .ok (.ladd, 1) := by decide +kernel
theorem dS_productAt_52 : decode cS_productAt 52 = .ok (.lstore 5, 2) := by decide +kernel
theorem dS_productAt_54 : decode cS_productAt 54 = .ok (.iload_n 3, 1) := by decide +kernel
theorem dS_productAt_55 : decode cS_productAt 55 = .ok (.iconst 3, 1) := by decide +kernel
theorem dS_productAt_56 : decode cS_productAt 56 = .ok (.if_icmp .ne 16, 3) := by decide +kernel
theorem dS_productAt_59 : decode cS_productAt 59 = .ok (.lload 5, 2) := by decide +kernel
theorem dS_productAt_61 : decode cS_productAt 61 = .ok (.aload_n 0, 1) := by decide +kernel
theorem dS_productAt_62 : decode cS_productAt 62 = .ok (.iload 4, 2) := by decide +kernel
theorem dS_productAt_64 : decode cS_productAt 64 = .ok (.iconst 3, 1) := by decide +kernel
theorem dS_productAt_65 : decode cS_productAt 65 = .ok (.iadd, 1) := by decide +kernel
theorem dS_productAt_66 : decode cS_productAt 66 = .ok (.iaload, 1) := by decide +kernel
theorem dS_productAt_67 : decode cS_productAt 67 = .ok (.i2l, 1) := by decide +kernel
theorem dS_productAt_68 : decode cS_productAt 68 = .ok (.ladd, 1) := by decide +kernel
theorem dS_productAt_69 : decode cS_productAt 69 = .ok (.goto 5, 3) := by decide +kernel
theorem dS_productAt_72 : decode cS_productAt 72 = .ok (.lload 5, 2) := by decide +kernel
theorem dS_productAt_74 : decode cS_productAt 74 = .ok (.invokestatic 126, 3) := by decide +kernel
theorem dS_productAt_77 : decode cS_productAt 77 = .ok (.ireturn, 1) := by decide +kernel
theorem dS_mul_0 : decode cS_mul 0 = .ok (.lload_n 0, 1) := by decide +kernel
theorem dS_mul_1 : decode cS_mul 1 = .ok (.lload_n 2, 1) := by decide +kernel
theorem dS_mul_2 : decode cS_mul 2 = .ok (.lmul, 1) := by decide +kernel
theorem dS_mul_3 : decode cS_mul 3 = .ok (.bipush 16, 2) := by decide +kernel
theorem dS_mul_5 : decode cS_mul 5 = .ok (.lshr, 1) := by decide +kernel
theorem dS_mul_6 : decode cS_mul 6 = .ok (.lreturn, 1) := by decide +kernel
theorem dS_bound_0 : decode cS_bound 0 = .ok (.ldc2_w 150, 3) := by decide +kernel
theorem dS_bound_3 : decode cS_bound 3 = .ok (.ldc2_w 152, 3) := by decide +kernel
theorem dS_bound_6 : decode cS_bound 6 = .ok (.lload_n 0, 1) := by decide +kernel
theorem dS_bound_7 : decode cS_bound 7 = .ok (.invokestatic 154, 3) := by decide +kernel
theorem dS_bound_10 : decode cS_bound 10 = .ok (.invokestatic 156, 3) := by decide +kernel
theorem dS_bound_13 : decode cS_bound 13 = .ok (.l2i, 1) := by decide +kernel
theorem dS_bound_14 : decode cS_bound 14 = .ok (.ireturn, 1) := by decide +kernel
theorem dS_add_0 : decode cS_add 0 = .ok (.aload_n 0, 1) := by decide +kernel
theorem dS_add_1 : decode cS_add 1 = .ok (.getfield 7, 3) := by decide +kernel
theorem dS_add_4 : decode cS_add 4 = .ok (.bipush 48, 2) := by decide +kernel
theorem dS_add_6 : decode cS_add 6 = .ok (.if_icmp .ge 23, 3) := by decide +kernel
theorem dS_add_9 : decode cS_add 9 = .ok (.aload_n 0, 1) := by decide +kernel
theorem dS_add_10 : decode cS_add 10 = .ok (.getfield 7, 3) := by decide +kernel
theorem dS_add_13 : decode cS_add 13 = .ok (.iload_n 1, 1) := by decide +kernel
theorem dS_add_14 : decode cS_add 14 = .ok (.invokestatic 63, 3) := by decide +kernel
theorem dS_add_17 : decode cS_add 17 = .ok (.ifCond .eq 12, 3) := by decide +kernel
theorem dS_add_20 : decode cS_add 20 = .ok (.iload_n 2, 1) := by decide +kernel
theorem dS_add_21 : decode cS_add 21 = .ok (.ifCond .lt 8, 3) := by decide +kernel
theorem dS_add_24 : decode cS_add 24 = .ok (.iload_n 2, 1) := by decide +kernel
theorem dS_add_25 : decode cS_add 25 = .ok (.iconst 2, 1) := by decide +kernel
theorem dS_add_26 : decode cS_add 26 = .ok (.if_icmp .le 5, 3) := by decide +kernel
theorem dS_add_29 : decode cS_add 29 = .ok (.iconst (-1), 1) := by decide +kernel
theorem dS_add_30 : decode cS_add 30 = .ok (.ireturn, 1) := by decide +kernel
theorem dS_add_31 : decode cS_add 31 = .ok (.aload_n 0, 1) := by decide +kernel
theorem dS_add_32 : decode cS_add 32 = .ok (.getfield 7, 3) := by decide +kernel
theorem dS_add_35 : decode cS_add 35 = .ok (.istore_n 3, 1) := by decide +kernel
theorem dS_add_36 : decode cS_add 36 = .ok (.aload_n 0, 1) := by decide +kernel
theorem dS_add_37 : decode cS_add 37 = .ok (.dup, 1) := by decide +kernel
theorem dS_add_38 : decode cS_add 38 = .ok (.getfield 7, 3) := by decide +kernel
theorem dS_add_41 : decode cS_add 41 = .ok (.iconst 1, 1) := by decide +kernel
theorem dS_add_42 : decode cS_add 42 = .ok (.iadd, 1) := by decide +kernel
theorem dS_add_43 : decode cS_add 43 = .ok (.putfield 7, 3) := by decide +kernel
theorem dS_add_46 : decode cS_add 46 = .ok (.aload_n 0, 1) := by decide +kernel
theorem dS_add_47 : decode cS_add 47 = .ok (.getfield 13, 3) := by decide +kernel
theorem dS_add_50 : decode cS_add 50 = .ok (.iload_n 3, 1) := by decide +kernel
theorem dS_add_51 : decode cS_add 51 = .ok (.iload_n 1, 1) := by decide +kernel
theorem dS_add_52 : decode cS_add 52 = .ok (.iastore, 1) := by decide +kernel
theorem dS_add_53 : decode cS_add 53 = .ok (.aload_n 0, 1) := by decide +kernel
theorem dS_add_54 : decode cS_add 54 = .ok (.getfield 17, 3) := by decide +kernel
theorem dS_add_57 : decode cS_add 57 = .ok (.iload_n 3, 1) := by decide +kernel
theorem dS_add_58 : decode cS_add 58 = .ok (.iload_n 2, 1) := by decide +kernel
theorem dS_add_59 : decode cS_add 59 = .ok (.iastore, 1) := by decide +kernel
theorem dS_add_60 : decode cS_add 60 = .ok (.aload_n 0, 1) := by decide +kernel
theorem dS_add_61 : decode cS_add 61 = .ok (.getfield 20, 3) := by decide +kernel
theorem dS_add_64 : decode cS_add 64 = .ok (.iload_n 3, 1) := by decide +kernel
theorem dS_add_65 : decode cS_add 65 = .ok (.iconst 0, 1) := by decide +kernel
theorem dS_add_66 : decode cS_add 66 = .ok (.bastore, 1) := by decide +kernel
theorem dS_add_67 : decode cS_add 67 = .ok (.aload_n 0, 1) := by decide +kernel
theorem dS_add_68 : decode cS_add 68 = .ok (.getfield 26, 3) := by decide +kernel
theorem dS_add_71 : decode cS_add 71 = .ok (.iload_n 3, 1) := by decide +kernel
theorem dS_add_72 : decode cS_add 72 = .ok (.aaload, 1) := by decide +kernel
theorem dS_add_73 : decode cS_add 73 = .ok (.iconst 0, 1) := by decide +kernel
theorem dS_add_74 : decode cS_add 74 = .ok (.iconst 0, 1) := by decide +kernel
theorem dS_add_75 : decode cS_add 75 = .ok (.iconst 0, 1) := by decide +kernel
theorem dS_add_76 : decode cS_add 76 = .ok (.iconst 0, 1) := by decide +kernel
theorem dS_add_77 : decode cS_add 77 = .ok (.invokestatic 67, 3) := by decide +kernel
theorem dS_add_80 : decode cS_add 80 = .ok (.aload_n 0, 1) := by decide +kernel
theorem dS_add_81 : decode cS_add 81 = .ok (.getfield 26, 3) := by decide +kernel
theorem dS_add_84 : decode cS_add 84 = .ok (.iload_n 3, 1) := by decide +kernel
theorem dS_add_85 : decode cS_add 85 = .ok (.aaload, 1) := by decide +kernel
theorem dS_add_86 : decode cS_add 86 = .ok (.iconst 1, 1) := by decide +kernel
theorem dS_add_87 : decode cS_add 87 = .ok (.iconst 0, 1) := by decide +kernel
theorem dS_add_88 : decode cS_add 88 = .ok (.iconst 0, 1) := by decide +kernel
theorem dS_add_89 : decode cS_add 89 = .ok (.iconst 0, 1) := by decide +kernel
theorem dS_add_90 : decode cS_add 90 = .ok (.invokestatic 67, 3) := by decide +kernel
theorem dS_add_93 : decode cS_add 93 = .ok (.aload_n 0, 1) := by decide +kernel
theorem dS_add_94 : decode cS_add 94 = .ok (.getfield 26, 3) := by decide +kernel
theorem dS_add_97 : decode cS_add 97 = .ok (.iload_n 3, 1) := by decide +kernel
theorem dS_add_98 : decode cS_add 98 = .ok (.aaload, 1) := by decide +kernel
theorem dS_add_99 : decode cS_add 99 = .ok (.iconst 2, 1) := by decide +kernel
theorem dS_add_100 : decode cS_add 100 = .ok (.ldc 71, 2) := by decide +kernel
theorem dS_add_102 : decode cS_add 102 = .ok (.ldc 71, 2) := by decide +kernel
theorem dS_add_104 : decode cS_add 104 = .ok (.ldc 71, 2) := by decide +kernel
theorem dS_add_106 : decode cS_add 106 = .ok (.invokestatic 67, 3) := by decide +kernel
theorem dS_add_109 : decode cS_add 109 = .ok (.aload_n 0, 1) := by decide +kernel
theorem dS_add_110 : decode cS_add 110 = .ok (.iload_n 3, 1) := by decide +kernel
theorem dS_add_111 : decode cS_add 111 = .ok (.invokevirtual 72, 3) := by decide +kernel
theorem dS_add_114 : decode cS_add 114 = .ok (.iload_n 3, 1) := by decide +kernel
theorem dS_add_115 : decode cS_add 115 = .ok (.ireturn, 1) := by decide +kernel
theorem dS_isParentBefore_0 : decode cS_isParentBefore 0 = .ok (.iload_n 1, 1) := by decide +kernel
theorem dS_isParentBefore_1 : decode cS_isParentBefore 1 = .ok (.iconst (-1), 1) := by decide +kernel
theorem dS_isParentBefore_2 : decode cS_isParentBefore 2 = .ok (.if_icmp .lt 12, 3) := by decide +kernel
theorem dS_isParentBefore_5 : decode cS_isParentBefore 5 = .ok (.iload_n 1, 1) := by decide +kernel
theorem dS_isParentBefore_6 : decode cS_isParentBefore 6 = .ok (.iload_n 0, 1) := by decide +kernel
theorem dS_isParentBefore_7 : decode cS_isParentBefore 7 = .ok (.if_icmp .ge 7, 3) := by decide +kernel
theorem dS_isParentBefore_10 : decode cS_isParentBefore 10 = .ok (.iconst 1, 1) := by decide +kernel
theorem dS_isParentBefore_11 : decode cS_isParentBefore 11 = .ok (.goto 4, 3) := by decide +kernel
theorem dS_isParentBefore_14 : decode cS_isParentBefore 14 = .ok (.iconst 0, 1) := by decide +kernel
theorem dS_isParentBefore_15 : decode cS_isParentBefore 15 = .ok (.ireturn, 1) := by decide +kernel
theorem dS_put_0 : decode cS_put 0 = .ok (.aload_n 0, 1) := by decide +kernel
theorem dS_put_1 : decode cS_put 1 = .ok (.iconst 3, 1) := by decide +kernel
theorem dS_put_2 : decode cS_put 2 = .ok (.iload_n 1, 1) := by decide +kernel
theorem dS_put_3 : decode cS_put 3 = .ok (.imul, 1) := by decide +kernel
theorem dS_put_4 : decode cS_put 4 = .ok (.iload_n 2, 1) := by decide +kernel
theorem dS_put_5 : decode cS_put 5 = .ok (.iastore, 1) := by decide +kernel
theorem dS_put_6 : decode cS_put 6 = .ok (.aload_n 0, 1) := by decide +kernel
theorem dS_put_7 : decode cS_put 7 = .ok (.iconst 3, 1) := by decide +kernel
theorem dS_put_8 : decode cS_put 8 = .ok (.iload_n 1, 1) := by decide +kernel
theorem dS_put_9 : decode cS_put 9 = .ok (.imul, 1) := by decide +kernel
theorem dS_put_10 : decode cS_put 10 = .ok (.iconst 1, 1) := by decide +kernel
theorem dS_put_11 : decode cS_put 11 = .ok (.iadd, 1) := by decide +kernel
theorem dS_put_12 : decode cS_put 12 = .ok (.iload_n 3, 1) := by decide +kernel
theorem dS_put_13 : decode cS_put 13 = .ok (.iastore, 1) := by decide +kernel
theorem dS_put_14 : decode cS_put 14 = .ok (.aload_n 0, 1) := by decide +kernel
theorem dS_put_15 : decode cS_put 15 = .ok (.iconst 3, 1) := by decide +kernel
theorem dS_put_16 : decode cS_put 16 = .ok (.iload_n 1, 1) := by decide +kernel
theorem dS_put_17 : decode cS_put 17 = .ok (.imul, 1) := by decide +kernel
theorem dS_put_18 : decode cS_put 18 = .ok (.iconst 2, 1) := by decide +kernel
theorem dS_put_19 : decode cS_put 19 = .ok (.iadd, 1) := by decide +kernel
theorem dS_put_20 : decode cS_put 20 = .ok (.iload 4, 2) := by decide +kernel
theorem dS_put_22 : decode cS_put 22 = .ok (.iastore, 1) := by decide +kernel
theorem dS_put_23 : decode cS_put 23 = .ok (.return_, 1) := by decide +kernel
theorem dS_refreshLocal_0 : decode cS_refreshLocal 0 = .ok (.aload_n 0, 1) := by decide +kernel
theorem dS_refreshLocal_1 : decode cS_refreshLocal 1 = .ok (.getfield 26, 3) := by decide +kernel
theorem dS_refreshLocal_4 : decode cS_refreshLocal 4 = .ok (.iload_n 1, 1) := by decide +kernel
theorem dS_refreshLocal_5 : decode cS_refreshLocal 5 = .ok (.aaload, 1) := by decide +kernel
theorem dS_refreshLocal_6 : decode cS_refreshLocal 6 = .ok (.astore_n 2, 1) := by decide +kernel
theorem dS_refreshLocal_7 : decode cS_refreshLocal 7 = .ok (.aload_n 0, 1) := by decide +kernel
theorem dS_refreshLocal_8 : decode cS_refreshLocal 8 = .ok (.getfield 29, 3) := by decide +kernel
theorem dS_refreshLocal_11 : decode cS_refreshLocal 11 = .ok (.iload_n 1, 1) := by decide +kernel
theorem dS_refreshLocal_12 : decode cS_refreshLocal 12 = .ok (.aaload, 1) := by decide +kernel
theorem dS_refreshLocal_13 : decode cS_refreshLocal 13 = .ok (.astore_n 3, 1) := by decide +kernel
theorem dS_refreshLocal_14 : decode cS_refreshLocal 14 = .ok (.aload_n 0, 1) := by decide +kernel
theorem dS_refreshLocal_15 : decode cS_refreshLocal 15 = .ok (.getfield 56, 3) := by decide +kernel
theorem dS_refreshLocal_18 : decode cS_refreshLocal 18 = .ok (.aload_n 2, 1) := by decide +kernel
theorem dS_refreshLocal_19 : decode cS_refreshLocal 19 = .ok (.invokevirtual 118, 3) := by decide +kernel
theorem dS_refreshLocal_22 : decode cS_refreshLocal 22 = .ok (.astore 4, 2) := by decide +kernel
theorem dS_refreshLocal_24 : decode cS_refreshLocal 24 = .ok (.iconst 0, 1) := by decide +kernel
theorem dS_refreshLocal_25 : decode cS_refreshLocal 25 = .ok (.istore 5, 2) := by decide +kernel
theorem dS_refreshLocal_27 : decode cS_refreshLocal 27 = .ok (.iload 5, 2) := by decide +kernel
theorem dS_refreshLocal_29 : decode cS_refreshLocal 29 = .ok (.iconst 3, 1) := by decide +kernel
theorem dS_refreshLocal_30 : decode cS_refreshLocal 30 = .ok (.if_icmp .ge 71, 3) := by decide +kernel
theorem dS_refreshLocal_33 : decode cS_refreshLocal 33 = .ok (.iconst 0, 1) := by decide +kernel
theorem dS_refreshLocal_34 : decode cS_refreshLocal 34 = .ok (.istore 6, 2) := by decide +kernel
theorem dS_refreshLocal_36 : decode cS_refreshLocal 36 = .ok (.iload 6, 2) := by decide +kernel
theorem dS_refreshLocal_38 : decode cS_refreshLocal 38 = .ok (.iconst 3, 1) := by decide +kernel
theorem dS_refreshLocal_39 : decode cS_refreshLocal 39 = .ok (.if_icmp .ge 42, 3) := by decide +kernel
theorem dS_refreshLocal_42 : decode cS_refreshLocal 42 = .ok (.iconst 4, 1) := by decide +kernel
theorem dS_refreshLocal_43 : decode cS_refreshLocal 43 = .ok (.iload 5, 2) := by decide +kernel
theorem dS_refreshLocal_45 : decode cS_refreshLocal 45 = .ok (.imul, 1) := by decide +kernel
theorem dS_refreshLocal_46 : decode cS_refreshLocal 46 = .ok (.iload 6, 2) := by decide +kernel
theorem dS_refreshLocal_48 : decode cS_refreshLocal 48 = .ok (.iadd, 1) := by decide +kernel
theorem dS_refreshLocal_49 : decode cS_refreshLocal 49 = .ok (.istore 7, 2) := by decide +kernel
theorem dS_refreshLocal_51 : decode cS_refreshLocal 51 = .ok (.aload_n 3, 1) := by decide +kernel
theorem dS_refreshLocal_52 : decode cS_refreshLocal 52 = .ok (.iload 7, 2) := by decide +kernel
theorem dS_refreshLocal_54 : decode cS_refreshLocal 54 = .ok (.aload 4, 2) := by decide +kernel
theorem dS_refreshLocal_56 : decode cS_refreshLocal 56 = .ok (.iload 7, 2) := by decide +kernel
theorem dS_refreshLocal_58 : decode cS_refreshLocal 58 = .ok (.iaload, 1) := by decide +kernel
theorem dS_refreshLocal_59 : decode cS_refreshLocal 59 = .ok (.i2l, 1) := by decide +kernel
theorem dS_refreshLocal_60 : decode cS_refreshLocal 60 = .ok (.aload_n 2, 1) := by decide +kernel
theorem dS_refreshLocal_61 : decode cS_refreshLocal 61 = .ok (.bipush 6, 2) := by decide +kernel
theorem dS_refreshLocal_63 : decode cS_refreshLocal 63 = .ok (.iload 6, 2) := by decide +kernel
theorem dS_refreshLocal_65 : decode cS_refreshLocal 65 = .ok (.iadd, 1) := by decide +kernel
theorem dS_refreshLocal_66 : decode cS_refreshLocal 66 = .ok (.iaload, 1) := by decide +kernel
theorem dS_refreshLocal_67 : decode cS_refreshLocal 67 = .ok (.i2l, 1) := by decide +kernel
theorem dS_refreshLocal_68 : decode cS_refreshLocal 68 = .ok (.invokestatic 122, 3) := by decide +kernel
theorem dS_refreshLocal_71 : decode cS_refreshLocal 71 = .ok (.invokestatic 126, 3) := by decide +kernel
theorem dS_refreshLocal_74 : decode cS_refreshLocal 74 = .ok (.iastore, 1) := by decide +kernel
theorem dS_refreshLocal_75 : decode cS_refreshLocal 75 = .ok (.iinc 6 1, 3) := by decide +kernel
theorem dS_refreshLocal_78 : decode cS_refreshLocal 78 = .ok (.goto (-42), 3) := by decide +kernel
theorem dS_refreshLocal_81 : decode cS_refreshLocal 81 = .ok (.aload_n 3, 1) := by decide +kernel
theorem dS_refreshLocal_82 : decode cS_refreshLocal 82 = .ok (.iconst 4, 1) := by decide +kernel
theorem dS_refreshLocal_83 : decode cS_refreshLocal 83 = .ok (.iload 5, 2) := by decide +kernel
theorem dS_refreshLocal_85 : decode cS_refreshLocal 85 = .ok (.imul, 1) := by decide +kernel
theorem dS_refreshLocal_86 : decode cS_refreshLocal 86 = .ok (.iconst 3, 1) := by decide +kernel
theorem dS_refreshLocal_87 : decode cS_refreshLocal 87 = .ok (.iadd, 1) := by decide +kernel
theorem dS_refreshLocal_88 : decode cS_refreshLocal 88 = .ok (.aload_n 2, 1) := by decide +kernel
theorem dS_refreshLocal_89 : decode cS_refreshLocal 89 = .ok (.iconst 0, 1) := by decide +kernel
theorem dS_refreshLocal_90 : decode cS_refreshLocal 90 = .ok (.iload 5, 2) := by decide +kernel
theorem dS_refreshLocal_92 : decode cS_refreshLocal 92 = .ok (.iadd, 1) := by decide +kernel
theorem dS_refreshLocal_93 : decode cS_refreshLocal 93 = .ok (.iaload, 1) := by decide +kernel
theorem dS_refreshLocal_94 : decode cS_refreshLocal 94 = .ok (.iastore, 1) := by decide +kernel
theorem dS_refreshLocal_95 : decode cS_refreshLocal 95 = .ok (.iinc 5 1, 3) := by decide +kernel
theorem dS_refreshLocal_98 : decode cS_refreshLocal 98 = .ok (.goto (-71), 3) := by decide +kernel
theorem dS_refreshLocal_101 : decode cS_refreshLocal 101 = .ok (.return_, 1) := by decide +kernel
theorem dS_clear_0 : decode cS_clear 0 = .ok (.aload_n 0, 1) := by decide +kernel
theorem dS_clear_1 : decode cS_clear 1 = .ok (.iconst 0, 1) := by decide +kernel
theorem dS_clear_2 : decode cS_clear 2 = .ok (.putfield 7, 3) := by decide +kernel
theorem dS_clear_5 : decode cS_clear 5 = .ok (.aload_n 0, 1) := by decide +kernel
theorem dS_clear_6 : decode cS_clear 6 = .ok (.iconst 0, 1) := by decide +kernel
theorem dS_clear_7 : decode cS_clear 7 = .ok (.putfield 35, 3) := by decide +kernel
theorem dS_clear_10 : decode cS_clear 10 = .ok (.return_, 1) := by decide +kernel
theorem dS_set_0 : decode cS_set 0 = .ok (.aload_n 0, 1) := by decide +kernel
theorem dS_set_1 : decode cS_set 1 = .ok (.iload_n 1, 1) := by decide +kernel
theorem dS_set_2 : decode cS_set 2 = .ok (.invokevirtual 76, 3) := by decide +kernel
theorem dS_set_5 : decode cS_set 5 = .ok (.ifCond .eq 24, 3) := by decide +kernel
theorem dS_set_8 : decode cS_set 8 = .ok (.iload_n 2, 1) := by decide +kernel
theorem dS_set_9 : decode cS_set 9 = .ok (.ifCond .lt 20, 3) := by decide +kernel
theorem dS_set_12 : decode cS_set 12 = .ok (.iload_n 2, 1) := by decide +kernel
theorem dS_set_13 : decode cS_set 13 = .ok (.iconst 2, 1) := by decide +kernel
theorem dS_set_14 : decode cS_set 14 = .ok (.if_icmp .gt 15, 3) := by decide +kernel
theorem dS_set_17 : decode cS_set 17 = .ok (.iload_n 2, 1) := by decide +kernel
theorem dS_set_18 : decode cS_set 18 = .ok (.iload_n 3, 1) := by decide +kernel
theorem dS_set_19 : decode cS_set 19 = .ok (.iload 4, 2) := by decide +kernel
theorem dS_set_21 : decode cS_set 21 = .ok (.iload 5, 2) := by decide +kernel
theorem dS_set_23 : decode cS_set 23 = .ok (.invokestatic 80, 3) := by decide +kernel
theorem dS_set_26 : decode cS_set 26 = .ok (.ifCond .ne 5, 3) := by decide +kernel
theorem dS_set_29 : decode cS_set 29 = .ok (.iconst 0, 1) := by decide +kernel
theorem dS_set_30 : decode cS_set 30 = .ok (.ireturn, 1) := by decide +kernel
theorem dS_set_31 : decode cS_set 31 = .ok (.aload_n 0, 1) := by decide +kernel
theorem dS_set_32 : decode cS_set 32 = .ok (.getfield 26, 3) := by decide +kernel
theorem dS_set_35 : decode cS_set 35 = .ok (.iload_n 1, 1) := by decide +kernel
theorem dS_set_36 : decode cS_set 36 = .ok (.aaload, 1) := by decide +kernel
theorem dS_set_37 : decode cS_set 37 = .ok (.iload_n 2, 1) := by decide +kernel
theorem dS_set_38 : decode cS_set 38 = .ok (.iload_n 3, 1) := by decide +kernel
theorem dS_set_39 : decode cS_set 39 = .ok (.iload 4, 2) := by decide +kernel
theorem dS_set_41 : decode cS_set 41 = .ok (.iload 5, 2) := by decide +kernel
theorem dS_set_43 : decode cS_set 43 = .ok (.invokestatic 67, 3) := by decide +kernel
theorem dS_set_46 : decode cS_set 46 = .ok (.aload_n 0, 1) := by decide +kernel
theorem dS_set_47 : decode cS_set 47 = .ok (.iload_n 1, 1) := by decide +kernel
theorem dS_set_48 : decode cS_set 48 = .ok (.invokevirtual 72, 3) := by decide +kernel
theorem dS_set_51 : decode cS_set 51 = .ok (.aload_n 0, 1) := by decide +kernel
theorem dS_set_52 : decode cS_set 52 = .ok (.aload_n 0, 1) := by decide +kernel
theorem dS_set_53 : decode cS_set 53 = .ok (.getfield 35, 3) := by decide +kernel
theorem dS_set_56 : decode cS_set 56 = .ok (.iload_n 1, 1) := by decide +kernel
theorem dS_set_57 : decode cS_set 57 = .ok (.invokestatic 84, 3) := by decide +kernel
theorem dS_set_60 : decode cS_set 60 = .ok (.putfield 35, 3) := by decide +kernel
theorem dS_set_63 : decode cS_set 63 = .ok (.iconst 1, 1) := by decide +kernel
theorem dS_set_64 : decode cS_set 64 = .ok (.ireturn, 1) := by decide +kernel
theorem dS_isNode_0 : decode cS_isNode 0 = .ok (.iload_n 1, 1) := by decide +kernel
theorem dS_isNode_1 : decode cS_isNode 1 = .ok (.ifCond .lt 15, 3) := by decide +kernel
theorem dS_isNode_4 : decode cS_isNode 4 = .ok (.iload_n 1, 1) := by decide +kernel
theorem dS_isNode_5 : decode cS_isNode 5 = .ok (.aload_n 0, 1) := by decide +kernel
theorem dS_isNode_6 : decode cS_isNode 6 = .ok (.getfield 7, 3) := by decide +kernel
theorem dS_isNode_9 : decode cS_isNode 9 = .ok (.if_icmp .ge 7, 3) := by decide +kernel
theorem dS_isNode_12 : decode cS_isNode 12 = .ok (.iconst 1, 1) := by decide +kernel
theorem dS_isNode_13 : decode cS_isNode 13 = .ok (.goto 4, 3) := by decide +kernel
theorem dS_isNode_16 : decode cS_isNode 16 = .ok (.iconst 0, 1) := by decide +kernel
theorem dS_isNode_17 : decode cS_isNode 17 = .ok (.ireturn, 1) := by decide +kernel
theorem dS_canBe_0 : decode cS_canBe 0 = .ok (.iload_n 0, 1) := by decide +kernel
theorem dS_canBe_1 : decode cS_canBe 1 = .ok (.ifCond .ne 8, 3) := by decide +kernel
theorem dS_canBe_4 : decode cS_canBe 4 = .ok (.ldc 113, 2) := by decide +kernel
theorem dS_canBe_6 : decode cS_canBe 6 = .ok (.goto 15, 3) := by decide +kernel
theorem dS_canBe_9 : decode cS_canBe 9 = .ok (.iload_n 0, 1) := by decide +kernel
theorem dS_canBe_10 : decode cS_canBe 10 = .ok (.iconst 1, 1) := by decide +kernel
theorem dS_canBe_11 : decode cS_canBe 11 = .ok (.if_icmp .ne 8, 3) := by decide +kernel
theorem dS_canBe_14 : decode cS_canBe 14 = .ok (.ldc 114, 2) := by decide +kernel
theorem dS_canBe_16 : decode cS_canBe 16 = .ok (.goto 5, 3) := by decide +kernel
theorem dS_canBe_19 : decode cS_canBe 19 = .ok (.ldc 114, 2) := by decide +kernel
theorem dS_canBe_21 : decode cS_canBe 21 = .ok (.istore 4, 2) := by decide +kernel
theorem dS_canBe_23 : decode cS_canBe 23 = .ok (.iload_n 1, 1) := by decide +kernel
theorem dS_canBe_24 : decode cS_canBe 24 = .ok (.iload 4, 2) := by decide +kernel
theorem dS_canBe_26 : decode cS_canBe 26 = .ok (.invokestatic 115, 3) := by decide +kernel
theorem dS_canBe_29 : decode cS_canBe 29 = .ok (.ifCond .eq 25, 3) := by decide +kernel
theorem dS_canBe_32 : decode cS_canBe 32 = .ok (.iload_n 2, 1) := by decide +kernel
theorem dS_canBe_33 : decode cS_canBe 33 = .ok (.iload 4, 2) := by decide +kernel
theorem dS_canBe_35 : decode cS_canBe 35 = .ok (.invokestatic 115, 3) := by decide +kernel
theorem dS_canBe_38 : decode cS_canBe 38 = .ok (.ifCond .eq 16, 3) := by decide +kernel
theorem dS_canBe_41 : decode cS_canBe 41 = .ok (.iload_n 3, 1) := by decide +kernel
theorem dS_canBe_42 : decode cS_canBe 42 = .ok (.iload 4, 2) := by decide +kernel
theorem dS_canBe_44 : decode cS_canBe 44 = .ok (.invokestatic 115, 3) := by decide +kernel
theorem dS_canBe_47 : decode cS_canBe 47 = .ok (.ifCond .eq 7, 3) := by decide +kernel
theorem dS_canBe_50 : decode cS_canBe 50 = .ok (.iconst 1, 1) := by decide +kernel
theorem dS_canBe_51 : decode cS_canBe 51 = .ok (.goto 4, 3) := by decide +kernel
theorem dS_canBe_54 : decode cS_canBe 54 = .ok (.iconst 0, 1) := by decide +kernel
theorem dS_canBe_55 : decode cS_canBe 55 = .ok (.ireturn, 1) := by decide +kernel
theorem dS_isWithin_0 : decode cS_isWithin 0 = .ok (.iload_n 0, 1) := by decide +kernel
theorem dS_isWithin_1 : decode cS_isWithin 1 = .ok (.iload_n 1, 1) := by decide +kernel
theorem dS_isWithin_2 : decode cS_isWithin 2 = .ok (.ineg, 1) := by decide +kernel
theorem dS_isWithin_3 : decode cS_isWithin 3 = .ok (.if_icmp .lt 12, 3) := by decide +kernel
theorem dS_isWithin_6 : decode cS_isWithin 6 = .ok (.iload_n 0, 1) := by decide +kernel
theorem dS_isWithin_7 : decode cS_isWithin 7 = .ok (.iload_n 1, 1) := by decide +kernel
theorem dS_isWithin_8 : decode cS_isWithin 8 = .ok (.if_icmp .gt 7, 3) := by decide +kernel
theorem dS_isWithin_11 : decode cS_isWithin 11 = .ok (.iconst 1, 1) := by decide +kernel
theorem dS_isWithin_12 : decode cS_isWithin 12 = .ok (.goto 4, 3) := by decide +kernel
theorem dS_isWithin_15 : decode cS_isWithin 15 = .ok (.iconst 0, 1) := by decide +kernel
theorem dS_isWithin_16 : decode cS_isWithin 16 = .ok (.ireturn, 1) := by decide +kernel
theorem dS_hang_0 : decode cS_hang 0 = .ok (.aload_n 0, 1) := by decide +kernel
theorem dS_hang_1 : decode cS_hang 1 = .ok (.iload_n 1, 1) := by decide +kernel
theorem dS_hang_2 : decode cS_hang 2 = .ok (.invokevirtual 76, 3) := by decide +kernel
theorem dS_hang_5 : decode cS_hang 5 = .ok (.ifCond .eq 11, 3) := by decide +kernel
theorem dS_hang_8 : decode cS_hang 8 = .ok (.iload_n 1, 1) := by decide +kernel
theorem dS_hang_9 : decode cS_hang 9 = .ok (.iload_n 2, 1) := by decide +kernel
theorem dS_hang_10 : decode cS_hang 10 = .ok (.invokestatic 63, 3) := by decide +kernel
end
section
theorem dS_hang_13 : decode cS_hang 13 = .ok (.ifCond .ne 5, 3) := by decide +kernel
theorem dS_hang_16 : decode cS_hang 16 = .ok (.iconst 0, 1) := by decide +kernel
theorem dS_hang_17 : decode cS_hang 17 = .ok (.ireturn, 1) := by decide +kernel
theorem dS_hang_18 : decode cS_hang 18 = .ok (.aload_n 0, 1) := by decide +kernel
theorem dS_hang_19 : decode cS_hang 19 = .ok (.getfield 13, 3) := by decide +kernel
theorem dS_hang_22 : decode cS_hang 22 = .ok (.iload_n 1, 1) := by decide +kernel
theorem dS_hang_23 : decode cS_hang 23 = .ok (.iload_n 2, 1) := by decide +kernel
theorem dS_hang_24 : decode cS_hang 24 = .ok (.iastore, 1) := by decide +kernel
theorem dS_hang_25 : decode cS_hang 25 = .ok (.aload_n 0, 1) := by decide +kernel
theorem dS_hang_26 : decode cS_hang 26 = .ok (.aload_n 0, 1) := by decide +kernel
theorem dS_hang_27 : decode cS_hang 27 = .ok (.getfield 35, 3) := by decide +kernel
theorem dS_hang_30 : decode cS_hang 30 = .ok (.iload_n 1, 1) := by decide +kernel
theorem dS_hang_31 : decode cS_hang 31 = .ok (.invokestatic 84, 3) := by decide +kernel
theorem dS_hang_34 : decode cS_hang 34 = .ok (.putfield 35, 3) := by decide +kernel
theorem dS_hang_37 : decode cS_hang 37 = .ok (.iconst 1, 1) := by decide +kernel
theorem dS_hang_38 : decode cS_hang 38 = .ok (.ireturn, 1) := by decide +kernel
theorem dS_hide_0 : decode cS_hide 0 = .ok (.aload_n 0, 1) := by decide +kernel
theorem dS_hide_1 : decode cS_hide 1 = .ok (.iload_n 1, 1) := by decide +kernel
theorem dS_hide_2 : decode cS_hide 2 = .ok (.invokevirtual 76, 3) := by decide +kernel
theorem dS_hide_5 : decode cS_hide 5 = .ok (.ifCond .ne 5, 3) := by decide +kernel
theorem dS_hide_8 : decode cS_hide 8 = .ok (.iconst 0, 1) := by decide +kernel
theorem dS_hide_9 : decode cS_hide 9 = .ok (.ireturn, 1) := by decide +kernel
theorem dS_hide_10 : decode cS_hide 10 = .ok (.aload_n 0, 1) := by decide +kernel
theorem dS_hide_11 : decode cS_hide 11 = .ok (.getfield 20, 3) := by decide +kernel
theorem dS_hide_14 : decode cS_hide 14 = .ok (.iload_n 1, 1) := by decide +kernel
theorem dS_hide_15 : decode cS_hide 15 = .ok (.iload_n 2, 1) := by decide +kernel
theorem dS_hide_16 : decode cS_hide 16 = .ok (.bastore, 1) := by decide +kernel
theorem dS_hide_17 : decode cS_hide 17 = .ok (.iconst 1, 1) := by decide +kernel
theorem dS_hide_18 : decode cS_hide 18 = .ok (.ireturn, 1) := by decide +kernel
theorem dS_camera_0 : decode cS_camera 0 = .ok (.iload_n 1, 1) := by decide +kernel
theorem dS_camera_1 : decode cS_camera 1 = .ok (.ifCond .lt 19, 3) := by decide +kernel
theorem dS_camera_4 : decode cS_camera 4 = .ok (.iload_n 1, 1) := by decide +kernel
theorem dS_camera_5 : decode cS_camera 5 = .ok (.iconst 1, 1) := by decide +kernel
theorem dS_camera_6 : decode cS_camera 6 = .ok (.if_icmp .gt 14, 3) := by decide +kernel
theorem dS_camera_9 : decode cS_camera 9 = .ok (.iload_n 1, 1) := by decide +kernel
theorem dS_camera_10 : decode cS_camera 10 = .ok (.iload_n 2, 1) := by decide +kernel
theorem dS_camera_11 : decode cS_camera 11 = .ok (.iload_n 3, 1) := by decide +kernel
theorem dS_camera_12 : decode cS_camera 12 = .ok (.iload 4, 2) := by decide +kernel
theorem dS_camera_14 : decode cS_camera 14 = .ok (.invokestatic 80, 3) := by decide +kernel
theorem dS_camera_17 : decode cS_camera 17 = .ok (.ifCond .ne 5, 3) := by decide +kernel
theorem dS_camera_20 : decode cS_camera 20 = .ok (.iconst 0, 1) := by decide +kernel
theorem dS_camera_21 : decode cS_camera 21 = .ok (.ireturn, 1) := by decide +kernel
theorem dS_camera_22 : decode cS_camera 22 = .ok (.aload_n 0, 1) := by decide +kernel
theorem dS_camera_23 : decode cS_camera 23 = .ok (.getfield 38, 3) := by decide +kernel
theorem dS_camera_26 : decode cS_camera 26 = .ok (.iload_n 1, 1) := by decide +kernel
theorem dS_camera_27 : decode cS_camera 27 = .ok (.iload_n 2, 1) := by decide +kernel
theorem dS_camera_28 : decode cS_camera 28 = .ok (.iload_n 3, 1) := by decide +kernel
theorem dS_camera_29 : decode cS_camera 29 = .ok (.iload 4, 2) := by decide +kernel
theorem dS_camera_31 : decode cS_camera 31 = .ok (.invokestatic 67, 3) := by decide +kernel
theorem dS_camera_34 : decode cS_camera 34 = .ok (.aload_n 0, 1) := by decide +kernel
theorem dS_camera_35 : decode cS_camera 35 = .ok (.invokevirtual 60, 3) := by decide +kernel
theorem dS_camera_38 : decode cS_camera 38 = .ok (.iconst 1, 1) := by decide +kernel
theorem dS_camera_39 : decode cS_camera 39 = .ok (.ireturn, 1) := by decide +kernel
theorem dS_seen_0 : decode cS_seen 0 = .ok (.aload_n 0, 1) := by decide +kernel
theorem dS_seen_1 : decode cS_seen 1 = .ok (.invokevirtual 103, 3) := by decide +kernel
theorem dS_seen_4 : decode cS_seen 4 = .ok (.iconst 0, 1) := by decide +kernel
theorem dS_seen_5 : decode cS_seen 5 = .ok (.istore_n 1, 1) := by decide +kernel
theorem dS_seen_6 : decode cS_seen 6 = .ok (.iconst 0, 1) := by decide +kernel
theorem dS_seen_7 : decode cS_seen 7 = .ok (.istore_n 2, 1) := by decide +kernel
theorem dS_seen_8 : decode cS_seen 8 = .ok (.iload_n 2, 1) := by decide +kernel
theorem dS_seen_9 : decode cS_seen 9 = .ok (.aload_n 0, 1) := by decide +kernel
theorem dS_seen_10 : decode cS_seen 10 = .ok (.getfield 7, 3) := by decide +kernel
theorem dS_seen_13 : decode cS_seen 13 = .ok (.if_icmp .ge 20, 3) := by decide +kernel
theorem dS_seen_16 : decode cS_seen 16 = .ok (.aload_n 0, 1) := by decide +kernel
theorem dS_seen_17 : decode cS_seen 17 = .ok (.iload_n 2, 1) := by decide +kernel
theorem dS_seen_18 : decode cS_seen 18 = .ok (.invokevirtual 106, 3) := by decide +kernel
theorem dS_seen_21 : decode cS_seen 21 = .ok (.ifCond .eq 6, 3) := by decide +kernel
theorem dS_seen_24 : decode cS_seen 24 = .ok (.iinc 1 1, 3) := by decide +kernel
theorem dS_seen_27 : decode cS_seen 27 = .ok (.iinc 2 1, 3) := by decide +kernel
theorem dS_seen_30 : decode cS_seen 30 = .ok (.goto (-22), 3) := by decide +kernel
theorem dS_seen_33 : decode cS_seen 33 = .ok (.iload_n 1, 1) := by decide +kernel
theorem dS_seen_34 : decode cS_seen 34 = .ok (.ireturn, 1) := by decide +kernel
theorem dS_markOpen_0 : decode cS_markOpen 0 = .ok (.iconst 0, 1) := by decide +kernel
theorem dS_markOpen_1 : decode cS_markOpen 1 = .ok (.istore_n 1, 1) := by decide +kernel
theorem dS_markOpen_2 : decode cS_markOpen 2 = .ok (.iload_n 1, 1) := by decide +kernel
theorem dS_markOpen_3 : decode cS_markOpen 3 = .ok (.aload_n 0, 1) := by decide +kernel
theorem dS_markOpen_4 : decode cS_markOpen 4 = .ok (.getfield 7, 3) := by decide +kernel
theorem dS_markOpen_7 : decode cS_markOpen 7 = .ok (.if_icmp .ge 49, 3) := by decide +kernel
theorem dS_markOpen_10 : decode cS_markOpen 10 = .ok (.aload_n 0, 1) := by decide +kernel
theorem dS_markOpen_11 : decode cS_markOpen 11 = .ok (.getfield 13, 3) := by decide +kernel
theorem dS_markOpen_14 : decode cS_markOpen 14 = .ok (.iload_n 1, 1) := by decide +kernel
theorem dS_markOpen_15 : decode cS_markOpen 15 = .ok (.iaload, 1) := by decide +kernel
theorem dS_markOpen_16 : decode cS_markOpen 16 = .ok (.istore_n 2, 1) := by decide +kernel
theorem dS_markOpen_17 : decode cS_markOpen 17 = .ok (.aload_n 0, 1) := by decide +kernel
theorem dS_markOpen_18 : decode cS_markOpen 18 = .ok (.getfield 44, 3) := by decide +kernel
theorem dS_markOpen_21 : decode cS_markOpen 21 = .ok (.iload_n 1, 1) := by decide +kernel
theorem dS_markOpen_22 : decode cS_markOpen 22 = .ok (.aload_n 0, 1) := by decide +kernel
theorem dS_markOpen_23 : decode cS_markOpen 23 = .ok (.getfield 20, 3) := by decide +kernel
theorem dS_markOpen_26 : decode cS_markOpen 26 = .ok (.iload_n 1, 1) := by decide +kernel
theorem dS_markOpen_27 : decode cS_markOpen 27 = .ok (.baload, 1) := by decide +kernel
theorem dS_markOpen_28 : decode cS_markOpen 28 = .ok (.ifCond .ne 20, 3) := by decide +kernel
theorem dS_markOpen_31 : decode cS_markOpen 31 = .ok (.iload_n 2, 1) := by decide +kernel
theorem dS_markOpen_32 : decode cS_markOpen 32 = .ok (.ifCond .lt 12, 3) := by decide +kernel
theorem dS_markOpen_35 : decode cS_markOpen 35 = .ok (.aload_n 0, 1) := by decide +kernel
theorem dS_markOpen_36 : decode cS_markOpen 36 = .ok (.getfield 44, 3) := by decide +kernel
theorem dS_markOpen_39 : decode cS_markOpen 39 = .ok (.iload_n 2, 1) := by decide +kernel
theorem dS_markOpen_40 : decode cS_markOpen 40 = .ok (.baload, 1) := by decide +kernel
theorem dS_markOpen_41 : decode cS_markOpen 41 = .ok (.ifCond .eq 7, 3) := by decide +kernel
theorem dS_markOpen_44 : decode cS_markOpen 44 = .ok (.iconst 1, 1) := by decide +kernel
theorem dS_markOpen_45 : decode cS_markOpen 45 = .ok (.goto 4, 3) := by decide +kernel
theorem dS_markOpen_48 : decode cS_markOpen 48 = .ok (.iconst 0, 1) := by decide +kernel
theorem dS_markOpen_49 : decode cS_markOpen 49 = .ok (.bastore, 1) := by decide +kernel
theorem dS_markOpen_50 : decode cS_markOpen 50 = .ok (.iinc 1 1, 3) := by decide +kernel
theorem dS_markOpen_53 : decode cS_markOpen 53 = .ok (.goto (-51), 3) := by decide +kernel
theorem dS_markOpen_56 : decode cS_markOpen 56 = .ok (.return_, 1) := by decide +kernel
theorem dS_isSeen_0 : decode cS_isSeen 0 = .ok (.aload_n 0, 1) := by decide +kernel
theorem dS_isSeen_1 : decode cS_isSeen 1 = .ok (.getfield 17, 3) := by decide +kernel
theorem dS_isSeen_4 : decode cS_isSeen 4 = .ok (.iload_n 1, 1) := by decide +kernel
theorem dS_isSeen_5 : decode cS_isSeen 5 = .ok (.iaload, 1) := by decide +kernel
theorem dS_isSeen_6 : decode cS_isSeen 6 = .ok (.ifCond .eq 16, 3) := by decide +kernel
theorem dS_isSeen_9 : decode cS_isSeen 9 = .ok (.aload_n 0, 1) := by decide +kernel
theorem dS_isSeen_10 : decode cS_isSeen 10 = .ok (.getfield 44, 3) := by decide +kernel
theorem dS_isSeen_13 : decode cS_isSeen 13 = .ok (.iload_n 1, 1) := by decide +kernel
theorem dS_isSeen_14 : decode cS_isSeen 14 = .ok (.baload, 1) := by decide +kernel
theorem dS_isSeen_15 : decode cS_isSeen 15 = .ok (.ifCond .eq 7, 3) := by decide +kernel
theorem dS_isSeen_18 : decode cS_isSeen 18 = .ok (.iconst 1, 1) := by decide +kernel
theorem dS_isSeen_19 : decode cS_isSeen 19 = .ok (.goto 4, 3) := by decide +kernel
theorem dS_isSeen_22 : decode cS_isSeen 22 = .ok (.iconst 0, 1) := by decide +kernel
theorem dS_isSeen_23 : decode cS_isSeen 23 = .ok (.ireturn, 1) := by decide +kernel
theorem dS_inOrder_0 : decode cS_inOrder 0 = .ok (.iload_n 1, 1) := by decide +kernel
theorem dS_inOrder_1 : decode cS_inOrder 1 = .ok (.ifCond .lt 11, 3) := by decide +kernel
theorem dS_inOrder_4 : decode cS_inOrder 4 = .ok (.iload_n 1, 1) := by decide +kernel
theorem dS_inOrder_5 : decode cS_inOrder 5 = .ok (.aload_n 0, 1) := by decide +kernel
theorem dS_inOrder_6 : decode cS_inOrder 6 = .ok (.getfield 7, 3) := by decide +kernel
theorem dS_inOrder_9 : decode cS_inOrder 9 = .ok (.if_icmp .lt 5, 3) := by decide +kernel
theorem dS_inOrder_12 : decode cS_inOrder 12 = .ok (.iconst (-1), 1) := by decide +kernel
theorem dS_inOrder_13 : decode cS_inOrder 13 = .ok (.ireturn, 1) := by decide +kernel
theorem dS_inOrder_14 : decode cS_inOrder 14 = .ok (.aload_n 0, 1) := by decide +kernel
theorem dS_inOrder_15 : decode cS_inOrder 15 = .ok (.invokevirtual 109, 3) := by decide +kernel
theorem dS_inOrder_18 : decode cS_inOrder 18 = .ok (.istore_n 2, 1) := by decide +kernel
theorem dS_inOrder_19 : decode cS_inOrder 19 = .ok (.iload_n 1, 1) := by decide +kernel
theorem dS_inOrder_20 : decode cS_inOrder 20 = .ok (.iload_n 2, 1) := by decide +kernel
theorem dS_inOrder_21 : decode cS_inOrder 21 = .ok (.if_icmp .ge 12, 3) := by decide +kernel
theorem dS_inOrder_24 : decode cS_inOrder 24 = .ok (.aload_n 0, 1) := by decide +kernel
theorem dS_inOrder_25 : decode cS_inOrder 25 = .ok (.getfield 50, 3) := by decide +kernel
theorem dS_inOrder_28 : decode cS_inOrder 28 = .ok (.iload_n 1, 1) := by decide +kernel
theorem dS_inOrder_29 : decode cS_inOrder 29 = .ok (.iaload, 1) := by decide +kernel
theorem dS_inOrder_30 : decode cS_inOrder 30 = .ok (.goto 4, 3) := by decide +kernel
theorem dS_inOrder_33 : decode cS_inOrder 33 = .ok (.iconst (-1), 1) := by decide +kernel
theorem dS_inOrder_34 : decode cS_inOrder 34 = .ok (.ireturn, 1) := by decide +kernel
theorem dS_putInOrder_0 : decode cS_putInOrder 0 = .ok (.aload_n 0, 1) := by decide +kernel
theorem dS_putInOrder_1 : decode cS_putInOrder 1 = .ok (.invokevirtual 103, 3) := by decide +kernel
theorem dS_putInOrder_4 : decode cS_putInOrder 4 = .ok (.aload_n 0, 1) := by decide +kernel
theorem dS_putInOrder_5 : decode cS_putInOrder 5 = .ok (.aload_n 0, 1) := by decide +kernel
theorem dS_putInOrder_6 : decode cS_putInOrder 6 = .ok (.getfield 7, 3) := by decide +kernel
theorem dS_putInOrder_9 : decode cS_putInOrder 9 = .ok (.invokevirtual 96, 3) := by decide +kernel
theorem dS_putInOrder_12 : decode cS_putInOrder 12 = .ok (.iconst 0, 1) := by decide +kernel
theorem dS_putInOrder_13 : decode cS_putInOrder 13 = .ok (.istore_n 1, 1) := by decide +kernel
theorem dS_putInOrder_14 : decode cS_putInOrder 14 = .ok (.iconst 0, 1) := by decide +kernel
theorem dS_putInOrder_15 : decode cS_putInOrder 15 = .ok (.istore_n 2, 1) := by decide +kernel
theorem dS_putInOrder_16 : decode cS_putInOrder 16 = .ok (.iload_n 2, 1) := by decide +kernel
theorem dS_putInOrder_17 : decode cS_putInOrder 17 = .ok (.aload_n 0, 1) := by decide +kernel
theorem dS_putInOrder_18 : decode cS_putInOrder 18 = .ok (.getfield 7, 3) := by decide +kernel
theorem dS_putInOrder_21 : decode cS_putInOrder 21 = .ok (.if_icmp .ge 47, 3) := by decide +kernel
theorem dS_putInOrder_24 : decode cS_putInOrder 24 = .ok (.aload_n 0, 1) := by decide +kernel
theorem dS_putInOrder_25 : decode cS_putInOrder 25 = .ok (.iload_n 2, 1) := by decide +kernel
theorem dS_putInOrder_26 : decode cS_putInOrder 26 = .ok (.invokevirtual 106, 3) := by decide +kernel
theorem dS_putInOrder_29 : decode cS_putInOrder 29 = .ok (.ifCond .eq 33, 3) := by decide +kernel
theorem dS_putInOrder_32 : decode cS_putInOrder 32 = .ok (.aload_n 0, 1) := by decide +kernel
theorem dS_putInOrder_33 : decode cS_putInOrder 33 = .ok (.getfield 47, 3) := by decide +kernel
theorem dS_putInOrder_36 : decode cS_putInOrder 36 = .ok (.iload_n 2, 1) := by decide +kernel
theorem dS_putInOrder_37 : decode cS_putInOrder 37 = .ok (.aload_n 0, 1) := by decide +kernel
theorem dS_putInOrder_38 : decode cS_putInOrder 38 = .ok (.getfield 41, 3) := by decide +kernel
theorem dS_putInOrder_41 : decode cS_putInOrder 41 = .ok (.aload_n 0, 1) := by decide +kernel
theorem dS_putInOrder_42 : decode cS_putInOrder 42 = .ok (.getfield 32, 3) := by decide +kernel
theorem dS_putInOrder_45 : decode cS_putInOrder 45 = .ok (.iload_n 2, 1) := by decide +kernel
theorem dS_putInOrder_46 : decode cS_putInOrder 46 = .ok (.aaload, 1) := by decide +kernel
theorem dS_putInOrder_47 : decode cS_putInOrder 47 = .ok (.iconst 2, 1) := by decide +kernel
theorem dS_putInOrder_48 : decode cS_putInOrder 48 = .ok (.iconst 3, 1) := by decide +kernel
theorem dS_putInOrder_49 : decode cS_putInOrder 49 = .ok (.invokestatic 99, 3) := by decide +kernel
theorem dS_putInOrder_52 : decode cS_putInOrder 52 = .ok (.iastore, 1) := by decide +kernel
theorem dS_putInOrder_53 : decode cS_putInOrder 53 = .ok (.aload_n 0, 1) := by decide +kernel
theorem dS_putInOrder_54 : decode cS_putInOrder 54 = .ok (.iload_n 2, 1) := by decide +kernel
theorem dS_putInOrder_55 : decode cS_putInOrder 55 = .ok (.iload_n 1, 1) := by decide +kernel
theorem dS_putInOrder_56 : decode cS_putInOrder 56 = .ok (.invokevirtual 143, 3) := by decide +kernel
theorem dS_putInOrder_59 : decode cS_putInOrder 59 = .ok (.iinc 1 1, 3) := by decide +kernel
theorem dS_putInOrder_62 : decode cS_putInOrder 62 = .ok (.iinc 2 1, 3) := by decide +kernel
theorem dS_putInOrder_65 : decode cS_putInOrder 65 = .ok (.goto (-49), 3) := by decide +kernel
theorem dS_putInOrder_68 : decode cS_putInOrder 68 = .ok (.iload_n 1, 1) := by decide +kernel
theorem dS_putInOrder_69 : decode cS_putInOrder 69 = .ok (.ireturn, 1) := by decide +kernel
theorem dS_readyWorlds_0 : decode cS_readyWorlds 0 = .ok (.aload_n 0, 1) := by decide +kernel
theorem dS_readyWorlds_1 : decode cS_readyWorlds 1 = .ok (.getfield 35, 3) := by decide +kernel
theorem dS_readyWorlds_4 : decode cS_readyWorlds 4 = .ok (.istore_n 2, 1) := by decide +kernel
theorem dS_readyWorlds_5 : decode cS_readyWorlds 5 = .ok (.iload_n 2, 1) := by decide +kernel
theorem dS_readyWorlds_6 : decode cS_readyWorlds 6 = .ok (.iload_n 1, 1) := by decide +kernel
theorem dS_readyWorlds_7 : decode cS_readyWorlds 7 = .ok (.if_icmp .ge 63, 3) := by decide +kernel
theorem dS_readyWorlds_10 : decode cS_readyWorlds 10 = .ok (.aload_n 0, 1) := by decide +kernel
theorem dS_readyWorlds_11 : decode cS_readyWorlds 11 = .ok (.getfield 13, 3) := by decide +kernel
theorem dS_readyWorlds_14 : decode cS_readyWorlds 14 = .ok (.iload_n 2, 1) := by decide +kernel
theorem dS_readyWorlds_15 : decode cS_readyWorlds 15 = .ok (.iaload, 1) := by decide +kernel
theorem dS_readyWorlds_16 : decode cS_readyWorlds 16 = .ok (.istore_n 3, 1) := by decide +kernel
theorem dS_readyWorlds_17 : decode cS_readyWorlds 17 = .ok (.iload_n 3, 1) := by decide +kernel
theorem dS_readyWorlds_18 : decode cS_readyWorlds 18 = .ok (.ifCond .lt 27, 3) := by decide +kernel
theorem dS_readyWorlds_21 : decode cS_readyWorlds 21 = .ok (.aload_n 0, 1) := by decide +kernel
theorem dS_readyWorlds_22 : decode cS_readyWorlds 22 = .ok (.getfield 32, 3) := by decide +kernel
theorem dS_readyWorlds_25 : decode cS_readyWorlds 25 = .ok (.iload_n 3, 1) := by decide +kernel
theorem dS_readyWorlds_26 : decode cS_readyWorlds 26 = .ok (.aaload, 1) := by decide +kernel
theorem dS_readyWorlds_27 : decode cS_readyWorlds 27 = .ok (.aload_n 0, 1) := by decide +kernel
theorem dS_readyWorlds_28 : decode cS_readyWorlds 28 = .ok (.getfield 29, 3) := by decide +kernel
theorem dS_readyWorlds_31 : decode cS_readyWorlds 31 = .ok (.iload_n 2, 1) := by decide +kernel
theorem dS_readyWorlds_32 : decode cS_readyWorlds 32 = .ok (.aaload, 1) := by decide +kernel
theorem dS_readyWorlds_33 : decode cS_readyWorlds 33 = .ok (.aload_n 0, 1) := by decide +kernel
theorem dS_readyWorlds_34 : decode cS_readyWorlds 34 = .ok (.getfield 32, 3) := by decide +kernel
theorem dS_readyWorlds_37 : decode cS_readyWorlds 37 = .ok (.iload_n 2, 1) := by decide +kernel
theorem dS_readyWorlds_38 : decode cS_readyWorlds 38 = .ok (.aaload, 1) := by decide +kernel
theorem dS_readyWorlds_39 : decode cS_readyWorlds 39 = .ok (.invokestatic 130, 3) := by decide +kernel
theorem dS_readyWorlds_42 : decode cS_readyWorlds 42 = .ok (.goto 22, 3) := by decide +kernel
theorem dS_readyWorlds_45 : decode cS_readyWorlds 45 = .ok (.aload_n 0, 1) := by decide +kernel
theorem dS_readyWorlds_46 : decode cS_readyWorlds 46 = .ok (.getfield 29, 3) := by decide +kernel
theorem dS_readyWorlds_49 : decode cS_readyWorlds 49 = .ok (.iload_n 2, 1) := by decide +kernel
theorem dS_readyWorlds_50 : decode cS_readyWorlds 50 = .ok (.aaload, 1) := by decide +kernel
theorem dS_readyWorlds_51 : decode cS_readyWorlds 51 = .ok (.iconst 0, 1) := by decide +kernel
theorem dS_readyWorlds_52 : decode cS_readyWorlds 52 = .ok (.aload_n 0, 1) := by decide +kernel
theorem dS_readyWorlds_53 : decode cS_readyWorlds 53 = .ok (.getfield 32, 3) := by decide +kernel
theorem dS_readyWorlds_56 : decode cS_readyWorlds 56 = .ok (.iload_n 2, 1) := by decide +kernel
theorem dS_readyWorlds_57 : decode cS_readyWorlds 57 = .ok (.aaload, 1) := by decide +kernel
theorem dS_readyWorlds_58 : decode cS_readyWorlds 58 = .ok (.iconst 0, 1) := by decide +kernel
theorem dS_readyWorlds_59 : decode cS_readyWorlds 59 = .ok (.bipush 12, 2) := by decide +kernel
theorem dS_readyWorlds_61 : decode cS_readyWorlds 61 = .ok (.invokestatic 134, 3) := by decide +kernel
theorem dS_readyWorlds_64 : decode cS_readyWorlds 64 = .ok (.iinc 2 1, 3) := by decide +kernel
theorem dS_readyWorlds_67 : decode cS_readyWorlds 67 = .ok (.goto (-62), 3) := by decide +kernel
theorem dS_readyWorlds_70 : decode cS_readyWorlds 70 = .ok (.aload_n 0, 1) := by decide +kernel
theorem dS_readyWorlds_71 : decode cS_readyWorlds 71 = .ok (.aload_n 0, 1) := by decide +kernel
theorem dS_readyWorlds_72 : decode cS_readyWorlds 72 = .ok (.getfield 35, 3) := by decide +kernel
theorem dS_readyWorlds_75 : decode cS_readyWorlds 75 = .ok (.iload_n 1, 1) := by decide +kernel
theorem dS_readyWorlds_76 : decode cS_readyWorlds 76 = .ok (.invokestatic 140, 3) := by decide +kernel
theorem dS_readyWorlds_79 : decode cS_readyWorlds 79 = .ok (.putfield 35, 3) := by decide +kernel
theorem dS_readyWorlds_82 : decode cS_readyWorlds 82 = .ok (.return_, 1) := by decide +kernel
theorem dS_insert_0 : decode cS_insert 0 = .ok (.iload_n 2, 1) := by decide +kernel
theorem dS_insert_1 : decode cS_insert 1 = .ok (.istore_n 3, 1) := by decide +kernel
theorem dS_insert_2 : decode cS_insert 2 = .ok (.iload_n 3, 1) := by decide +kernel
theorem dS_insert_3 : decode cS_insert 3 = .ok (.ifCond .le 39, 3) := by decide +kernel
theorem dS_insert_6 : decode cS_insert 6 = .ok (.aload_n 0, 1) := by decide +kernel
theorem dS_insert_7 : decode cS_insert 7 = .ok (.iload_n 1, 1) := by decide +kernel
theorem dS_insert_8 : decode cS_insert 8 = .ok (.aload_n 0, 1) := by decide +kernel
theorem dS_insert_9 : decode cS_insert 9 = .ok (.getfield 50, 3) := by decide +kernel
theorem dS_insert_12 : decode cS_insert 12 = .ok (.iload_n 3, 1) := by decide +kernel
theorem dS_insert_13 : decode cS_insert 13 = .ok (.iconst 1, 1) := by decide +kernel
theorem dS_insert_14 : decode cS_insert 14 = .ok (.isub, 1) := by decide +kernel
theorem dS_insert_15 : decode cS_insert 15 = .ok (.iaload, 1) := by decide +kernel
theorem dS_insert_16 : decode cS_insert 16 = .ok (.invokevirtual 147, 3) := by decide +kernel
theorem dS_insert_19 : decode cS_insert 19 = .ok (.ifCond .eq 23, 3) := by decide +kernel
theorem dS_insert_22 : decode cS_insert 22 = .ok (.aload_n 0, 1) := by decide +kernel
theorem dS_insert_23 : decode cS_insert 23 = .ok (.getfield 50, 3) := by decide +kernel
theorem dS_insert_26 : decode cS_insert 26 = .ok (.iload_n 3, 1) := by decide +kernel
theorem dS_insert_27 : decode cS_insert 27 = .ok (.aload_n 0, 1) := by decide +kernel
theorem dS_insert_28 : decode cS_insert 28 = .ok (.getfield 50, 3) := by decide +kernel
theorem dS_insert_31 : decode cS_insert 31 = .ok (.iload_n 3, 1) := by decide +kernel
theorem dS_insert_32 : decode cS_insert 32 = .ok (.iconst 1, 1) := by decide +kernel
theorem dS_insert_33 : decode cS_insert 33 = .ok (.isub, 1) := by decide +kernel
theorem dS_insert_34 : decode cS_insert 34 = .ok (.iaload, 1) := by decide +kernel
theorem dS_insert_35 : decode cS_insert 35 = .ok (.iastore, 1) := by decide +kernel
theorem dS_insert_36 : decode cS_insert 36 = .ok (.iinc 3 (-1), 3) := by decide +kernel
theorem dS_insert_39 : decode cS_insert 39 = .ok (.goto (-37), 3) := by decide +kernel
theorem dS_insert_42 : decode cS_insert 42 = .ok (.aload_n 0, 1) := by decide +kernel
theorem dS_insert_43 : decode cS_insert 43 = .ok (.getfield 50, 3) := by decide +kernel
theorem dS_insert_46 : decode cS_insert 46 = .ok (.iload_n 3, 1) := by decide +kernel
theorem dS_insert_47 : decode cS_insert 47 = .ok (.iload_n 1, 1) := by decide +kernel
theorem dS_insert_48 : decode cS_insert 48 = .ok (.iastore, 1) := by decide +kernel
theorem dS_insert_49 : decode cS_insert 49 = .ok (.return_, 1) := by decide +kernel
theorem dS_isDrawnBefore_0 : decode cS_isDrawnBefore 0 = .ok (.aload_n 0, 1) := by decide +kernel
theorem dS_isDrawnBefore_1 : decode cS_isDrawnBefore 1 = .ok (.getfield 17, 3) := by decide +kernel
theorem dS_isDrawnBefore_4 : decode cS_isDrawnBefore 4 = .ok (.iload_n 1, 1) := by decide +kernel
theorem dS_isDrawnBefore_5 : decode cS_isDrawnBefore 5 = .ok (.iaload, 1) := by decide +kernel
theorem dS_isDrawnBefore_6 : decode cS_isDrawnBefore 6 = .ok (.aload_n 0, 1) := by decide +kernel
theorem dS_isDrawnBefore_7 : decode cS_isDrawnBefore 7 = .ok (.getfield 17, 3) := by decide +kernel
theorem dS_isDrawnBefore_10 : decode cS_isDrawnBefore 10 = .ok (.iload_n 2, 1) := by decide +kernel
theorem dS_isDrawnBefore_11 : decode cS_isDrawnBefore 11 = .ok (.iaload, 1) := by decide +kernel
theorem dS_isDrawnBefore_12 : decode cS_isDrawnBefore 12 = .ok (.if_icmp .eq 19, 3) := by decide +kernel
theorem dS_isDrawnBefore_15 : decode cS_isDrawnBefore 15 = .ok (.aload_n 0, 1) := by decide +kernel
theorem dS_isDrawnBefore_16 : decode cS_isDrawnBefore 16 = .ok (.getfield 17, 3) := by decide +kernel
theorem dS_isDrawnBefore_19 : decode cS_isDrawnBefore 19 = .ok (.iload_n 1, 1) := by decide +kernel
theorem dS_isDrawnBefore_20 : decode cS_isDrawnBefore 20 = .ok (.iaload, 1) := by decide +kernel
theorem dS_isDrawnBefore_21 : decode cS_isDrawnBefore 21 = .ok (.iconst 1, 1) := by decide +kernel
theorem dS_isDrawnBefore_22 : decode cS_isDrawnBefore 22 = .ok (.if_icmp .ne 7, 3) := by decide +kernel
theorem dS_isDrawnBefore_25 : decode cS_isDrawnBefore 25 = .ok (.iconst 1, 1) := by decide +kernel
theorem dS_isDrawnBefore_26 : decode cS_isDrawnBefore 26 = .ok (.goto 4, 3) := by decide +kernel
theorem dS_isDrawnBefore_29 : decode cS_isDrawnBefore 29 = .ok (.iconst 0, 1) := by decide +kernel
theorem dS_isDrawnBefore_30 : decode cS_isDrawnBefore 30 = .ok (.ireturn, 1) := by decide +kernel
theorem dS_isDrawnBefore_31 : decode cS_isDrawnBefore 31 = .ok (.aload_n 0, 1) := by decide +kernel
theorem dS_isDrawnBefore_32 : decode cS_isDrawnBefore 32 = .ok (.getfield 17, 3) := by decide +kernel
theorem dS_isDrawnBefore_35 : decode cS_isDrawnBefore 35 = .ok (.iload_n 1, 1) := by decide +kernel
theorem dS_isDrawnBefore_36 : decode cS_isDrawnBefore 36 = .ok (.iaload, 1) := by decide +kernel
theorem dS_isDrawnBefore_37 : decode cS_isDrawnBefore 37 = .ok (.iconst 1, 1) := by decide +kernel
theorem dS_isDrawnBefore_38 : decode cS_isDrawnBefore 38 = .ok (.if_icmp .ne 26, 3) := by decide +kernel
theorem dS_isDrawnBefore_41 : decode cS_isDrawnBefore 41 = .ok (.aload_n 0, 1) := by decide +kernel
theorem dS_isDrawnBefore_42 : decode cS_isDrawnBefore 42 = .ok (.getfield 47, 3) := by decide +kernel
theorem dS_isDrawnBefore_45 : decode cS_isDrawnBefore 45 = .ok (.iload_n 1, 1) := by decide +kernel
theorem dS_isDrawnBefore_46 : decode cS_isDrawnBefore 46 = .ok (.iaload, 1) := by decide +kernel
theorem dS_isDrawnBefore_47 : decode cS_isDrawnBefore 47 = .ok (.aload_n 0, 1) := by decide +kernel
theorem dS_isDrawnBefore_48 : decode cS_isDrawnBefore 48 = .ok (.getfield 47, 3) := by decide +kernel
theorem dS_isDrawnBefore_51 : decode cS_isDrawnBefore 51 = .ok (.iload_n 2, 1) := by decide +kernel
theorem dS_isDrawnBefore_52 : decode cS_isDrawnBefore 52 = .ok (.iaload, 1) := by decide +kernel
theorem dS_isDrawnBefore_53 : decode cS_isDrawnBefore 53 = .ok (.if_icmp .ge 7, 3) := by decide +kernel
theorem dS_isDrawnBefore_56 : decode cS_isDrawnBefore 56 = .ok (.iconst 1, 1) := by decide +kernel
theorem dS_isDrawnBefore_57 : decode cS_isDrawnBefore 57 = .ok (.goto 27, 3) := by decide +kernel
theorem dS_isDrawnBefore_60 : decode cS_isDrawnBefore 60 = .ok (.iconst 0, 1) := by decide +kernel
theorem dS_isDrawnBefore_61 : decode cS_isDrawnBefore 61 = .ok (.goto 23, 3) := by decide +kernel
theorem dS_isDrawnBefore_64 : decode cS_isDrawnBefore 64 = .ok (.aload_n 0, 1) := by decide +kernel
theorem dS_isDrawnBefore_65 : decode cS_isDrawnBefore 65 = .ok (.getfield 47, 3) := by decide +kernel
theorem dS_isDrawnBefore_68 : decode cS_isDrawnBefore 68 = .ok (.iload_n 1, 1) := by decide +kernel
theorem dS_isDrawnBefore_69 : decode cS_isDrawnBefore 69 = .ok (.iaload, 1) := by decide +kernel
theorem dS_isDrawnBefore_70 : decode cS_isDrawnBefore 70 = .ok (.aload_n 0, 1) := by decide +kernel
theorem dS_isDrawnBefore_71 : decode cS_isDrawnBefore 71 = .ok (.getfield 47, 3) := by decide +kernel
theorem dS_isDrawnBefore_74 : decode cS_isDrawnBefore 74 = .ok (.iload_n 2, 1) := by decide +kernel
theorem dS_isDrawnBefore_75 : decode cS_isDrawnBefore 75 = .ok (.iaload, 1) := by decide +kernel
theorem dS_isDrawnBefore_76 : decode cS_isDrawnBefore 76 = .ok (.if_icmp .le 7, 3) := by decide +kernel
theorem dS_isDrawnBefore_79 : decode cS_isDrawnBefore 79 = .ok (.iconst 1, 1) := by decide +kernel
theorem dS_isDrawnBefore_80 : decode cS_isDrawnBefore 80 = .ok (.goto 4, 3) := by decide +kernel
theorem dS_isDrawnBefore_83 : decode cS_isDrawnBefore 83 = .ok (.iconst 0, 1) := by decide +kernel
theorem dS_isDrawnBefore_84 : decode cS_isDrawnBefore 84 = .ok (.ireturn, 1) := by decide +kernel
theorem dS_count_0 : decode cS_count 0 = .ok (.aload_n 0, 1) := by decide +kernel
theorem dS_count_1 : decode cS_count 1 = .ok (.getfield 7, 3) := by decide +kernel
theorem dS_count_4 : decode cS_count 4 = .ok (.ireturn, 1) := by decide +kernel
theorem dL_world_0 : decode cL_world 0 = .ok (.aload 4, 2) := by decide +kernel
theorem dL_world_2 : decode cL_world 2 = .ok (.iconst 0, 1) := by decide +kernel
theorem dL_world_3 : decode cL_world 3 = .ok (.aload_n 0, 1) := by decide +kernel
theorem dL_world_4 : decode cL_world 4 = .ok (.iload_n 1, 1) := by decide +kernel
theorem dL_world_5 : decode cL_world 5 = .ok (.iload_n 2, 1) := by decide +kernel
theorem dL_world_6 : decode cL_world 6 = .ok (.iload_n 3, 1) := by decide +kernel
theorem dL_world_7 : decode cL_world 7 = .ok (.invokevirtual 7, 3) := by decide +kernel
theorem dL_world_10 : decode cL_world 10 = .ok (.i2l, 1) := by decide +kernel
theorem dL_world_11 : decode cL_world 11 = .ok (.lastore, 1) := by decide +kernel
theorem dL_world_12 : decode cL_world 12 = .ok (.goto 7, 3) := by decide +kernel
theorem dL_world_15 : decode cL_world 15 = .ok (.astore 5, 2) := by decide +kernel
theorem dL_world_17 : decode cL_world 17 = .ok (.iconst 1, 1) := by decide +kernel
theorem dL_world_18 : decode cL_world 18 = .ok (.ireturn, 1) := by decide +kernel
theorem dL_world_19 : decode cL_world 19 = .ok (.iconst 0, 1) := by decide +kernel
theorem dL_world_20 : decode cL_world 20 = .ok (.ireturn, 1) := by decide +kernel
theorem dS_world_0 : decode cS_world 0 = .ok (.aload_n 0, 1) := by decide +kernel
theorem dS_world_1 : decode cS_world 1 = .ok (.iload_n 1, 1) := by decide +kernel
theorem dS_world_2 : decode cS_world 2 = .ok (.invokevirtual 76, 3) := by decide +kernel
theorem dS_world_5 : decode cS_world 5 = .ok (.ifCond .eq 11, 3) := by decide +kernel
theorem dS_world_8 : decode cS_world 8 = .ok (.iload_n 2, 1) := by decide +kernel
theorem dS_world_9 : decode cS_world 9 = .ok (.iload_n 3, 1) := by decide +kernel
theorem dS_world_10 : decode cS_world 10 = .ok (.invokestatic 90, 3) := by decide +kernel
theorem dS_world_13 : decode cS_world 13 = .ok (.ifCond .ne 11, 3) := by decide +kernel
theorem dS_world_16 : decode cS_world 16 = .ok (.new 93, 3) := by decide +kernel
theorem dS_world_19 : decode cS_world 19 = .ok (.dup, 1) := by decide +kernel
theorem dS_world_20 : decode cS_world 20 = .ok (.invokespecial 95, 3) := by decide +kernel
theorem dS_world_23 : decode cS_world 23 = .ok (.athrow, 1) := by decide +kernel
theorem dS_world_24 : decode cS_world 24 = .ok (.aload_n 0, 1) := by decide +kernel
theorem dS_world_25 : decode cS_world 25 = .ok (.iload_n 1, 1) := by decide +kernel
theorem dS_world_26 : decode cS_world 26 = .ok (.iconst 1, 1) := by decide +kernel
theorem dS_world_27 : decode cS_world 27 = .ok (.iadd, 1) := by decide +kernel
theorem dS_world_28 : decode cS_world 28 = .ok (.invokevirtual 96, 3) := by decide +kernel
theorem dS_world_31 : decode cS_world 31 = .ok (.aload_n 0, 1) := by decide +kernel
theorem dS_world_32 : decode cS_world 32 = .ok (.getfield 32, 3) := by decide +kernel
theorem dS_world_35 : decode cS_world 35 = .ok (.iload_n 1, 1) := by decide +kernel
theorem dS_world_36 : decode cS_world 36 = .ok (.aaload, 1) := by decide +kernel
theorem dS_world_37 : decode cS_world 37 = .ok (.iconst 4, 1) := by decide +kernel
theorem dS_world_38 : decode cS_world 38 = .ok (.iload_n 2, 1) := by decide +kernel
theorem dS_world_39 : decode cS_world 39 = .ok (.imul, 1) := by decide +kernel
theorem dS_world_40 : decode cS_world 40 = .ok (.iload_n 3, 1) := by decide +kernel
theorem dS_world_41 : decode cS_world 41 = .ok (.iadd, 1) := by decide +kernel
theorem dS_world_42 : decode cS_world 42 = .ok (.iaload, 1) := by decide +kernel
theorem dS_world_43 : decode cS_world 43 = .ok (.ireturn, 1) := by decide +kernel
theorem dS_isCell_0 : decode cS_isCell 0 = .ok (.iload_n 0, 1) := by decide +kernel
theorem dS_isCell_1 : decode cS_isCell 1 = .ok (.ifCond .lt 21, 3) := by decide +kernel
theorem dS_isCell_4 : decode cS_isCell 4 = .ok (.iload_n 0, 1) := by decide +kernel
theorem dS_isCell_5 : decode cS_isCell 5 = .ok (.iconst 3, 1) := by decide +kernel
theorem dS_isCell_6 : decode cS_isCell 6 = .ok (.if_icmp .ge 16, 3) := by decide +kernel
theorem dS_isCell_9 : decode cS_isCell 9 = .ok (.iload_n 1, 1) := by decide +kernel
theorem dS_isCell_10 : decode cS_isCell 10 = .ok (.ifCond .lt 12, 3) := by decide +kernel
theorem dS_isCell_13 : decode cS_isCell 13 = .ok (.iload_n 1, 1) := by decide +kernel
theorem dS_isCell_14 : decode cS_isCell 14 = .ok (.iconst 4, 1) := by decide +kernel
theorem dS_isCell_15 : decode cS_isCell 15 = .ok (.if_icmp .ge 7, 3) := by decide +kernel
theorem dS_isCell_18 : decode cS_isCell 18 = .ok (.iconst 1, 1) := by decide +kernel
theorem dS_isCell_19 : decode cS_isCell 19 = .ok (.goto 4, 3) := by decide +kernel
theorem dS_isCell_22 : decode cS_isCell 22 = .ok (.iconst 0, 1) := by decide +kernel
theorem dS_isCell_23 : decode cS_isCell 23 = .ok (.ireturn, 1) := by decide +kernel
theorem dL_model_0 : decode cL_model 0 = .ok (.aload 4, 2) := by decide +kernel
theorem dL_model_2 : decode cL_model 2 = .ok (.iconst 0, 1) := by decide +kernel
theorem dL_model_3 : decode cL_model 3 = .ok (.aload_n 0, 1) := by decide +kernel
theorem dL_model_4 : decode cL_model 4 = .ok (.iload_n 1, 1) := by decide +kernel
theorem dL_model_5 : decode cL_model 5 = .ok (.iload_n 2, 1) := by decide +kernel
theorem dL_model_6 : decode cL_model 6 = .ok (.iload_n 3, 1) := by decide +kernel
theorem dL_model_7 : decode cL_model 7 = .ok (.invokevirtual 15, 3) := by decide +kernel
theorem dL_model_10 : decode cL_model 10 = .ok (.i2l, 1) := by decide +kernel
theorem dL_model_11 : decode cL_model 11 = .ok (.lastore, 1) := by decide +kernel
theorem dL_model_12 : decode cL_model 12 = .ok (.goto 7, 3) := by decide +kernel
theorem dL_model_15 : decode cL_model 15 = .ok (.astore 5, 2) := by decide +kernel
theorem dL_model_17 : decode cL_model 17 = .ok (.iconst 1, 1) := by decide +kernel
theorem dL_model_18 : decode cL_model 18 = .ok (.ireturn, 1) := by decide +kernel
theorem dL_model_19 : decode cL_model 19 = .ok (.iconst 0, 1) := by decide +kernel
theorem dL_model_20 : decode cL_model 20 = .ok (.ireturn, 1) := by decide +kernel
theorem dS_model_0 : decode cS_model 0 = .ok (.aload_n 0, 1) := by decide +kernel
theorem dS_model_1 : decode cS_model 1 = .ok (.iload_n 1, 1) := by decide +kernel
theorem dS_model_2 : decode cS_model 2 = .ok (.invokevirtual 76, 3) := by decide +kernel
theorem dS_model_5 : decode cS_model 5 = .ok (.ifCond .eq 11, 3) := by decide +kernel
theorem dS_model_8 : decode cS_model 8 = .ok (.iload_n 2, 1) := by decide +kernel
theorem dS_model_9 : decode cS_model 9 = .ok (.iload_n 3, 1) := by decide +kernel
theorem dS_model_10 : decode cS_model 10 = .ok (.invokestatic 90, 3) := by decide +kernel
theorem dS_model_13 : decode cS_model 13 = .ok (.ifCond .ne 11, 3) := by decide +kernel
theorem dS_model_16 : decode cS_model 16 = .ok (.new 93, 3) := by decide +kernel
theorem dS_model_19 : decode cS_model 19 = .ok (.dup, 1) := by decide +kernel
theorem dS_model_20 : decode cS_model 20 = .ok (.invokespecial 95, 3) := by decide +kernel
theorem dS_model_23 : decode cS_model 23 = .ok (.athrow, 1) := by decide +kernel
theorem dS_model_24 : decode cS_model 24 = .ok (.aload_n 0, 1) := by decide +kernel
theorem dS_model_25 : decode cS_model 25 = .ok (.iload_n 1, 1) := by decide +kernel
theorem dS_model_26 : decode cS_model 26 = .ok (.iconst 1, 1) := by decide +kernel
theorem dS_model_27 : decode cS_model 27 = .ok (.iadd, 1) := by decide +kernel
theorem dS_model_28 : decode cS_model 28 = .ok (.invokevirtual 96, 3) := by decide +kernel
theorem dS_model_31 : decode cS_model 31 = .ok (.aload_n 0, 1) := by decide +kernel
theorem dS_model_32 : decode cS_model 32 = .ok (.getfield 41, 3) := by decide +kernel
theorem dS_model_35 : decode cS_model 35 = .ok (.aload_n 0, 1) := by decide +kernel
theorem dS_model_36 : decode cS_model 36 = .ok (.getfield 32, 3) := by decide +kernel
theorem dS_model_39 : decode cS_model 39 = .ok (.iload_n 1, 1) := by decide +kernel
theorem dS_model_40 : decode cS_model 40 = .ok (.aaload, 1) := by decide +kernel
theorem dS_model_41 : decode cS_model 41 = .ok (.iload_n 2, 1) := by decide +kernel
theorem dS_model_42 : decode cS_model 42 = .ok (.iload_n 3, 1) := by decide +kernel
theorem dS_model_43 : decode cS_model 43 = .ok (.invokestatic 99, 3) := by decide +kernel
theorem dS_model_46 : decode cS_model 46 = .ok (.ireturn, 1) := by decide +kernel
theorem dL_about_0 : decode cL_about 0 = .ok (.aload_n 3, 1) := by decide +kernel
theorem dL_about_1 : decode cL_about 1 = .ok (.iconst 0, 1) := by decide +kernel
theorem dL_about_2 : decode cL_about 2 = .ok (.aload_n 0, 1) := by decide +kernel
theorem dL_about_3 : decode cL_about 3 = .ok (.iload_n 1, 1) := by decide +kernel
theorem dL_about_4 : decode cL_about 4 = .ok (.iload_n 2, 1) := by decide +kernel
theorem dL_about_5 : decode cL_about 5 = .ok (.invokevirtual 18, 3) := by decide +kernel
theorem dL_about_8 : decode cL_about 8 = .ok (.i2l, 1) := by decide +kernel
theorem dL_about_9 : decode cL_about 9 = .ok (.lastore, 1) := by decide +kernel
theorem dL_about_10 : decode cL_about 10 = .ok (.goto 7, 3) := by decide +kernel
theorem dL_about_13 : decode cL_about 13 = .ok (.astore 4, 2) := by decide +kernel
theorem dL_about_15 : decode cL_about 15 = .ok (.iconst 1, 1) := by decide +kernel
theorem dL_about_16 : decode cL_about 16 = .ok (.ireturn, 1) := by decide +kernel
theorem dL_about_17 : decode cL_about 17 = .ok (.iconst 0, 1) := by decide +kernel
theorem dL_about_18 : decode cL_about 18 = .ok (.ireturn, 1) := by decide +kernel
theorem dS_about_0 : decode cS_about 0 = .ok (.aload_n 0, 1) := by decide +kernel
theorem dS_about_1 : decode cS_about 1 = .ok (.iload_n 1, 1) := by decide +kernel
theorem dS_about_2 : decode cS_about 2 = .ok (.invokevirtual 76, 3) := by decide +kernel
theorem dS_about_5 : decode cS_about 5 = .ok (.ifCond .eq 13, 3) := by decide +kernel
theorem dS_about_8 : decode cS_about 8 = .ok (.iload_n 2, 1) := by decide +kernel
theorem dS_about_9 : decode cS_about 9 = .ok (.ifCond .lt 9, 3) := by decide +kernel
theorem dS_about_12 : decode cS_about 12 = .ok (.iload_n 2, 1) := by decide +kernel
theorem dS_about_13 : decode cS_about 13 = .ok (.bipush 12, 2) := by decide +kernel
theorem dS_about_15 : decode cS_about 15 = .ok (.if_icmp .lt 11, 3) := by decide +kernel
theorem dS_about_18 : decode cS_about 18 = .ok (.new 93, 3) := by decide +kernel
theorem dS_about_21 : decode cS_about 21 = .ok (.dup, 1) := by decide +kernel
theorem dS_about_22 : decode cS_about 22 = .ok (.invokespecial 95, 3) := by decide +kernel
theorem dS_about_25 : decode cS_about 25 = .ok (.athrow, 1) := by decide +kernel
theorem dS_about_26 : decode cS_about 26 = .ok (.iload_n 2, 1) := by decide +kernel
theorem dS_about_27 : decode cS_about 27 = .ok (.tableswitch 54 0 2 #[25, 32, 39], 25) := by decide +kernel
theorem dS_about_52 : decode cS_about 52 = .ok (.aload_n 0, 1) := by decide +kernel
theorem dS_about_53 : decode cS_about 53 = .ok (.getfield 13, 3) := by decide +kernel
theorem dS_about_56 : decode cS_about 56 = .ok (.iload_n 1, 1) := by decide +kernel
theorem dS_about_57 : decode cS_about 57 = .ok (.iaload, 1) := by decide +kernel
theorem dS_about_58 : decode cS_about 58 = .ok (.ireturn, 1) := by decide +kernel
theorem dS_about_59 : decode cS_about 59 = .ok (.aload_n 0, 1) := by decide +kernel
theorem dS_about_60 : decode cS_about 60 = .ok (.getfield 17, 3) := by decide +kernel
theorem dS_about_63 : decode cS_about 63 = .ok (.iload_n 1, 1) := by decide +kernel
theorem dS_about_64 : decode cS_about 64 = .ok (.iaload, 1) := by decide +kernel
theorem dS_about_65 : decode cS_about 65 = .ok (.ireturn, 1) := by decide +kernel
theorem dS_about_66 : decode cS_about 66 = .ok (.aload_n 0, 1) := by decide +kernel
theorem dS_about_67 : decode cS_about 67 = .ok (.getfield 20, 3) := by decide +kernel
theorem dS_about_70 : decode cS_about 70 = .ok (.iload_n 1, 1) := by decide +kernel
theorem dS_about_71 : decode cS_about 71 = .ok (.baload, 1) := by decide +kernel
theorem dS_about_72 : decode cS_about 72 = .ok (.ifCond .eq 7, 3) := by decide +kernel
theorem dS_about_75 : decode cS_about 75 = .ok (.iconst 1, 1) := by decide +kernel
theorem dS_about_76 : decode cS_about 76 = .ok (.goto 4, 3) := by decide +kernel
theorem dS_about_79 : decode cS_about 79 = .ok (.iconst 0, 1) := by decide +kernel
theorem dS_about_80 : decode cS_about 80 = .ok (.ireturn, 1) := by decide +kernel
theorem dS_about_81 : decode cS_about 81 = .ok (.aload_n 0, 1) := by decide +kernel
theorem dS_about_82 : decode cS_about 82 = .ok (.getfield 26, 3) := by decide +kernel
theorem dS_about_85 : decode cS_about 85 = .ok (.iload_n 1, 1) := by decide +kernel
theorem dS_about_86 : decode cS_about 86 = .ok (.aaload, 1) := by decide +kernel
theorem dS_about_87 : decode cS_about 87 = .ok (.iload_n 2, 1) := by decide +kernel
theorem dS_about_88 : decode cS_about 88 = .ok (.iconst 3, 1) := by decide +kernel
theorem dS_about_89 : decode cS_about 89 = .ok (.isub, 1) := by decide +kernel
theorem dS_about_90 : decode cS_about 90 = .ok (.iaload, 1) := by decide +kernel
theorem dS_about_91 : decode cS_about 91 = .ok (.ireturn, 1) := by decide +kernel
theorem dM_init_0 : decode cM_init 0 = .ok (.aload_n 0, 1) := by decide +kernel
theorem dM_init_1 : decode cM_init 1 = .ok (.invokespecial 1, 3) := by decide +kernel
theorem dM_init_4 : decode cM_init 4 = .ok (.aload_n 0, 1) := by decide +kernel
theorem dM_init_5 : decode cM_init 5 = .ok (.bipush 48, 2) := by decide +kernel
theorem dM_init_7 : decode cM_init 7 = .ok (.newarray .int, 2) := by decide +kernel
theorem dM_init_9 : decode cM_init 9 = .ok (.putfield 7, 3) := by decide +kernel
theorem dM_init_12 : decode cM_init 12 = .ok (.aload_n 0, 1) := by decide +kernel
theorem dM_init_13 : decode cM_init 13 = .ok (.bipush 48, 2) := by decide +kernel
theorem dM_init_15 : decode cM_init 15 = .ok (.newarray .int, 2) := by decide +kernel
theorem dM_init_17 : decode cM_init 17 = .ok (.putfield 13, 3) := by decide +kernel
theorem dM_init_20 : decode cM_init 20 = .ok (.aload_n 0, 1) := by decide +kernel
theorem dM_init_21 : decode cM_init 21 = .ok (.bipush 48, 2) := by decide +kernel
theorem dM_init_23 : decode cM_init 23 = .ok (.newarray .boolean, 2) := by decide +kernel
theorem dM_init_25 : decode cM_init 25 = .ok (.putfield 16, 3) := by decide +kernel
theorem dM_init_28 : decode cM_init 28 = .ok (.aload_n 0, 1) := by decide +kernel
theorem dM_init_29 : decode cM_init 29 = .ok (.sipush 441, 3) := by decide +kernel
theorem dM_init_32 : decode cM_init 32 = .ok (.newarray .int, 2) := by decide +kernel
theorem dM_init_34 : decode cM_init 34 = .ok (.putfield 20, 3) := by decide +kernel
theorem dM_init_37 : decode cM_init 37 = .ok (.aload_n 0, 1) := by decide +kernel
theorem dM_init_38 : decode cM_init 38 = .ok (.bipush 48, 2) := by decide +kernel
theorem dM_init_40 : decode cM_init 40 = .ok (.newarray .int, 2) := by decide +kernel
theorem dM_init_42 : decode cM_init 42 = .ok (.putfield 23, 3) := by decide +kernel
theorem dM_init_45 : decode cM_init 45 = .ok (.aload_n 0, 1) := by decide +kernel
theorem dM_init_46 : decode cM_init 46 = .ok (.bipush 48, 2) := by decide +kernel
theorem dM_init_48 : decode cM_init 48 = .ok (.newarray .long, 2) := by decide +kernel
theorem dM_init_50 : decode cM_init 50 = .ok (.putfield 26, 3) := by decide +kernel
theorem dM_init_53 : decode cM_init 53 = .ok (.aload_n 0, 1) := by decide +kernel
theorem dM_init_54 : decode cM_init 54 = .ok (.bipush 12, 2) := by decide +kernel
theorem dM_init_56 : decode cM_init 56 = .ok (.newarray .long, 2) := by decide +kernel
theorem dM_init_58 : decode cM_init 58 = .ok (.putfield 30, 3) := by decide +kernel
theorem dM_init_61 : decode cM_init 61 = .ok (.aload_n 0, 1) := by decide +kernel
theorem dM_init_62 : decode cM_init 62 = .ok (.bipush 12, 2) := by decide +kernel
theorem dM_init_64 : decode cM_init 64 = .ok (.newarray .long, 2) := by decide +kernel
theorem dM_init_66 : decode cM_init 66 = .ok (.putfield 33, 3) := by decide +kernel
theorem dM_init_69 : decode cM_init 69 = .ok (.aload_n 0, 1) := by decide +kernel
theorem dM_init_70 : decode cM_init 70 = .ok (.bipush 12, 2) := by decide +kernel
theorem dM_init_72 : decode cM_init 72 = .ok (.newarray .long, 2) := by decide +kernel
theorem dM_init_74 : decode cM_init 74 = .ok (.putfield 36, 3) := by decide +kernel
theorem dM_init_77 : decode cM_init 77 = .ok (.aload_n 0, 1) := by decide +kernel
theorem dM_init_78 : decode cM_init 78 = .ok (.bipush 12, 2) := by decide +kernel
theorem dM_init_80 : decode cM_init 80 = .ok (.newarray .long, 2) := by decide +kernel
theorem dM_init_82 : decode cM_init 82 = .ok (.putfield 39, 3) := by decide +kernel
theorem dM_init_85 : decode cM_init 85 = .ok (.aload_n 0, 1) := by decide +kernel
theorem dM_init_86 : decode cM_init 86 = .ok (.bipush 12, 2) := by decide +kernel
theorem dM_init_88 : decode cM_init 88 = .ok (.newarray .long, 2) := by decide +kernel
theorem dM_init_90 : decode cM_init 90 = .ok (.putfield 42, 3) := by decide +kernel
theorem dM_init_93 : decode cM_init 93 = .ok (.aload_n 0, 1) := by decide +kernel
theorem dM_init_94 : decode cM_init 94 = .ok (.bipush 12, 2) := by decide +kernel
theorem dM_init_96 : decode cM_init 96 = .ok (.newarray .long, 2) := by decide +kernel
theorem dM_init_98 : decode cM_init 98 = .ok (.putfield 45, 3) := by decide +kernel
theorem dM_init_101 : decode cM_init 101 = .ok (.return_, 1) := by decide +kernel
theorem dM_thrown_0 : decode cM_thrown 0 = .ok (.aload_n 0, 1) := by decide +kernel
theorem dM_thrown_1 : decode cM_thrown 1 = .ok (.getfield 48, 3) := by decide +kernel
theorem dM_thrown_4 : decode cM_thrown 4 = .ok (.ireturn, 1) := by decide +kernel
theorem dM_add_0 : decode cM_add 0 = .ok (.aload_n 0, 1) := by decide +kernel
theorem dM_add_1 : decode cM_add 1 = .ok (.iconst 0, 1) := by decide +kernel
theorem dM_add_2 : decode cM_add 2 = .ok (.putfield 48, 3) := by decide +kernel
theorem dM_add_5 : decode cM_add 5 = .ok (.aload_n 0, 1) := by decide +kernel
theorem dM_add_6 : decode cM_add 6 = .ok (.getfield 52, 3) := by decide +kernel
theorem dM_add_9 : decode cM_add 9 = .ok (.bipush 48, 2) := by decide +kernel
theorem dM_add_11 : decode cM_add 11 = .ok (.if_icmp .eq 25, 3) := by decide +kernel
theorem dM_add_14 : decode cM_add 14 = .ok (.iload_n 1, 1) := by decide +kernel
theorem dM_add_15 : decode cM_add 15 = .ok (.iconst (-1), 1) := by decide +kernel
theorem dM_add_16 : decode cM_add 16 = .ok (.if_icmp .lt 20, 3) := by decide +kernel
theorem dM_add_19 : decode cM_add 19 = .ok (.iload_n 1, 1) := by decide +kernel
theorem dM_add_20 : decode cM_add 20 = .ok (.aload_n 0, 1) := by decide +kernel
theorem dM_add_21 : decode cM_add 21 = .ok (.getfield 52, 3) := by decide +kernel
theorem dM_add_24 : decode cM_add 24 = .ok (.if_icmp .ge 12, 3) := by decide +kernel
theorem dM_add_27 : decode cM_add 27 = .ok (.iload_n 2, 1) := by decide +kernel
theorem dM_add_28 : decode cM_add 28 = .ok (.ifCond .lt 8, 3) := by decide +kernel
theorem dM_add_31 : decode cM_add 31 = .ok (.iload_n 2, 1) := by decide +kernel
theorem dM_add_32 : decode cM_add 32 = .ok (.iconst 2, 1) := by decide +kernel
theorem dM_add_33 : decode cM_add 33 = .ok (.if_icmp .le 5, 3) := by decide +kernel
theorem dM_add_36 : decode cM_add 36 = .ok (.iconst (-1), 1) := by decide +kernel
theorem dM_add_37 : decode cM_add 37 = .ok (.ireturn, 1) := by decide +kernel
theorem dM_add_38 : decode cM_add 38 = .ok (.aload_n 0, 1) := by decide +kernel
theorem dM_add_39 : decode cM_add 39 = .ok (.getfield 7, 3) := by decide +kernel
theorem dM_add_42 : decode cM_add 42 = .ok (.aload_n 0, 1) := by decide +kernel
theorem dM_add_43 : decode cM_add 43 = .ok (.getfield 52, 3) := by decide +kernel
theorem dM_add_46 : decode cM_add 46 = .ok (.iload_n 1, 1) := by decide +kernel
theorem dM_add_47 : decode cM_add 47 = .ok (.iastore, 1) := by decide +kernel
theorem dM_add_48 : decode cM_add 48 = .ok (.aload_n 0, 1) := by decide +kernel
theorem dM_add_49 : decode cM_add 49 = .ok (.getfield 13, 3) := by decide +kernel
theorem dM_add_52 : decode cM_add 52 = .ok (.aload_n 0, 1) := by decide +kernel
theorem dM_add_53 : decode cM_add 53 = .ok (.getfield 52, 3) := by decide +kernel
theorem dM_add_56 : decode cM_add 56 = .ok (.iload_n 2, 1) := by decide +kernel
theorem dM_add_57 : decode cM_add 57 = .ok (.iastore, 1) := by decide +kernel
theorem dM_add_58 : decode cM_add 58 = .ok (.aload_n 0, 1) := by decide +kernel
theorem dM_add_59 : decode cM_add 59 = .ok (.getfield 16, 3) := by decide +kernel
theorem dM_add_62 : decode cM_add 62 = .ok (.aload_n 0, 1) := by decide +kernel
theorem dM_add_63 : decode cM_add 63 = .ok (.getfield 52, 3) := by decide +kernel
theorem dM_add_66 : decode cM_add 66 = .ok (.iconst 0, 1) := by decide +kernel
theorem dM_add_67 : decode cM_add 67 = .ok (.bastore, 1) := by decide +kernel
theorem dM_add_68 : decode cM_add 68 = .ok (.iconst 0, 1) := by decide +kernel
theorem dM_add_69 : decode cM_add 69 = .ok (.istore_n 3, 1) := by decide +kernel
theorem dM_add_70 : decode cM_add 70 = .ok (.iload_n 3, 1) := by decide +kernel
theorem dM_add_71 : decode cM_add 71 = .ok (.bipush 9, 2) := by decide +kernel
theorem dM_add_73 : decode cM_add 73 = .ok (.if_icmp .ge 35, 3) := by decide +kernel
theorem dM_add_76 : decode cM_add 76 = .ok (.aload_n 0, 1) := by decide +kernel
theorem dM_add_77 : decode cM_add 77 = .ok (.getfield 20, 3) := by decide +kernel
theorem dM_add_80 : decode cM_add 80 = .ok (.bipush 9, 2) := by decide +kernel
theorem dM_add_82 : decode cM_add 82 = .ok (.aload_n 0, 1) := by decide +kernel
theorem dM_add_83 : decode cM_add 83 = .ok (.getfield 52, 3) := by decide +kernel
theorem dM_add_86 : decode cM_add 86 = .ok (.imul, 1) := by decide +kernel
theorem dM_add_87 : decode cM_add 87 = .ok (.iload_n 3, 1) := by decide +kernel
theorem dM_add_88 : decode cM_add 88 = .ok (.iadd, 1) := by decide +kernel
theorem dM_add_89 : decode cM_add 89 = .ok (.iload_n 3, 1) := by decide +kernel
theorem dM_add_90 : decode cM_add 90 = .ok (.bipush 6, 2) := by decide +kernel
theorem dM_add_92 : decode cM_add 92 = .ok (.if_icmp .ge 7, 3) := by decide +kernel
theorem dM_add_95 : decode cM_add 95 = .ok (.iconst 0, 1) := by decide +kernel
theorem dM_add_96 : decode cM_add 96 = .ok (.goto 5, 3) := by decide +kernel
theorem dM_add_99 : decode cM_add 99 = .ok (.ldc 55, 2) := by decide +kernel
theorem dM_add_101 : decode cM_add 101 = .ok (.iastore, 1) := by decide +kernel
theorem dM_add_102 : decode cM_add 102 = .ok (.iinc 3 1, 3) := by decide +kernel
theorem dM_add_105 : decode cM_add 105 = .ok (.goto (-35), 3) := by decide +kernel
theorem dM_add_108 : decode cM_add 108 = .ok (.aload_n 0, 1) := by decide +kernel
theorem dM_add_109 : decode cM_add 109 = .ok (.dup, 1) := by decide +kernel
theorem dM_add_110 : decode cM_add 110 = .ok (.getfield 52, 3) := by decide +kernel
theorem dM_add_113 : decode cM_add 113 = .ok (.iconst 1, 1) := by decide +kernel
theorem dM_add_114 : decode cM_add 114 = .ok (.iadd, 1) := by decide +kernel
theorem dM_add_115 : decode cM_add 115 = .ok (.putfield 52, 3) := by decide +kernel
theorem dM_add_118 : decode cM_add 118 = .ok (.aload_n 0, 1) := by decide +kernel
theorem dM_add_119 : decode cM_add 119 = .ok (.getfield 52, 3) := by decide +kernel
theorem dM_add_122 : decode cM_add 122 = .ok (.iconst 1, 1) := by decide +kernel
theorem dM_add_123 : decode cM_add 123 = .ok (.isub, 1) := by decide +kernel
theorem dM_add_124 : decode cM_add 124 = .ok (.ireturn, 1) := by decide +kernel
theorem dM_clear_0 : decode cM_clear 0 = .ok (.aload_n 0, 1) := by decide +kernel
theorem dM_clear_1 : decode cM_clear 1 = .ok (.iconst 0, 1) := by decide +kernel
theorem dM_clear_2 : decode cM_clear 2 = .ok (.putfield 48, 3) := by decide +kernel
theorem dM_clear_5 : decode cM_clear 5 = .ok (.aload_n 0, 1) := by decide +kernel
theorem dM_clear_6 : decode cM_clear 6 = .ok (.iconst 0, 1) := by decide +kernel
theorem dM_clear_7 : decode cM_clear 7 = .ok (.putfield 52, 3) := by decide +kernel
theorem dM_clear_10 : decode cM_clear 10 = .ok (.return_, 1) := by decide +kernel
theorem dM_set_0 : decode cM_set 0 = .ok (.aload_n 0, 1) := by decide +kernel
theorem dM_set_1 : decode cM_set 1 = .ok (.iconst 0, 1) := by decide +kernel
theorem dM_set_2 : decode cM_set 2 = .ok (.putfield 48, 3) := by decide +kernel
theorem dM_set_5 : decode cM_set 5 = .ok (.aload_n 0, 1) := by decide +kernel
theorem dM_set_6 : decode cM_set 6 = .ok (.iload_n 1, 1) := by decide +kernel
theorem dM_set_7 : decode cM_set 7 = .ok (.invokevirtual 62, 3) := by decide +kernel
theorem dM_set_10 : decode cM_set 10 = .ok (.ifCond .eq 37, 3) := by decide +kernel
theorem dM_set_13 : decode cM_set 13 = .ok (.iload_n 2, 1) := by decide +kernel
theorem dM_set_14 : decode cM_set 14 = .ok (.ifCond .lt 33, 3) := by decide +kernel
theorem dM_set_17 : decode cM_set 17 = .ok (.iload_n 2, 1) := by decide +kernel
theorem dM_set_18 : decode cM_set 18 = .ok (.iconst 3, 1) := by decide +kernel
theorem dM_set_19 : decode cM_set 19 = .ok (.if_icmp .ge 28, 3) := by decide +kernel
theorem dM_set_22 : decode cM_set 22 = .ok (.aload_n 0, 1) := by decide +kernel
theorem dM_set_23 : decode cM_set 23 = .ok (.bipush 9, 2) := by decide +kernel
theorem dM_set_25 : decode cM_set 25 = .ok (.iload_n 1, 1) := by decide +kernel
theorem dM_set_26 : decode cM_set 26 = .ok (.imul, 1) := by decide +kernel
theorem dM_set_27 : decode cM_set 27 = .ok (.iconst 3, 1) := by decide +kernel
theorem dM_set_28 : decode cM_set 28 = .ok (.iload_n 2, 1) := by decide +kernel
theorem dM_set_29 : decode cM_set 29 = .ok (.imul, 1) := by decide +kernel
theorem dM_set_30 : decode cM_set 30 = .ok (.iadd, 1) := by decide +kernel
theorem dM_set_31 : decode cM_set 31 = .ok (.iload_n 2, 1) := by decide +kernel
theorem dM_set_32 : decode cM_set 32 = .ok (.iload_n 3, 1) := by decide +kernel
theorem dM_set_33 : decode cM_set 33 = .ok (.iload 4, 2) := by decide +kernel
theorem dM_set_35 : decode cM_set 35 = .ok (.iload 5, 2) := by decide +kernel
theorem dM_set_37 : decode cM_set 37 = .ok (.invokevirtual 66, 3) := by decide +kernel
theorem dM_set_40 : decode cM_set 40 = .ok (.ifCond .eq 7, 3) := by decide +kernel
theorem dM_set_43 : decode cM_set 43 = .ok (.iconst 1, 1) := by decide +kernel
theorem dM_set_44 : decode cM_set 44 = .ok (.goto 4, 3) := by decide +kernel
theorem dM_set_47 : decode cM_set 47 = .ok (.iconst 0, 1) := by decide +kernel
theorem dM_set_48 : decode cM_set 48 = .ok (.ireturn, 1) := by decide +kernel
theorem dM_isNode_0 : decode cM_isNode 0 = .ok (.iload_n 1, 1) := by decide +kernel
theorem dM_isNode_1 : decode cM_isNode 1 = .ok (.ifCond .lt 15, 3) := by decide +kernel
theorem dM_isNode_4 : decode cM_isNode 4 = .ok (.iload_n 1, 1) := by decide +kernel
theorem dM_isNode_5 : decode cM_isNode 5 = .ok (.aload_n 0, 1) := by decide +kernel
theorem dM_isNode_6 : decode cM_isNode 6 = .ok (.getfield 52, 3) := by decide +kernel
theorem dM_isNode_9 : decode cM_isNode 9 = .ok (.if_icmp .ge 7, 3) := by decide +kernel
theorem dM_isNode_12 : decode cM_isNode 12 = .ok (.iconst 1, 1) := by decide +kernel
theorem dM_isNode_13 : decode cM_isNode 13 = .ok (.goto 4, 3) := by decide +kernel
theorem dM_isNode_16 : decode cM_isNode 16 = .ok (.iconst 0, 1) := by decide +kernel
theorem dM_isNode_17 : decode cM_isNode 17 = .ok (.ireturn, 1) := by decide +kernel
theorem dM_lays_0 : decode cM_lays 0 = .ok (.iload_n 2, 1) := by decide +kernel
theorem dM_lays_1 : decode cM_lays 1 = .ok (.iload_n 3, 1) := by decide +kernel
theorem dM_lays_2 : decode cM_lays 2 = .ok (.invokestatic 58, 3) := by decide +kernel
theorem dM_lays_5 : decode cM_lays 5 = .ok (.ifCond .eq 21, 3) := by decide +kernel
theorem dM_lays_8 : decode cM_lays 8 = .ok (.iload_n 2, 1) := by decide +kernel
theorem dM_lays_9 : decode cM_lays 9 = .ok (.iload 4, 2) := by decide +kernel
theorem dM_lays_11 : decode cM_lays 11 = .ok (.invokestatic 58, 3) := by decide +kernel
theorem dM_lays_14 : decode cM_lays 14 = .ok (.ifCond .eq 12, 3) := by decide +kernel
theorem dM_lays_17 : decode cM_lays 17 = .ok (.iload_n 2, 1) := by decide +kernel
theorem dM_lays_18 : decode cM_lays 18 = .ok (.iload 5, 2) := by decide +kernel
theorem dM_lays_20 : decode cM_lays 20 = .ok (.invokestatic 58, 3) := by decide +kernel
theorem dM_lays_23 : decode cM_lays 23 = .ok (.ifCond .ne 5, 3) := by decide +kernel
theorem dM_lays_26 : decode cM_lays 26 = .ok (.iconst 0, 1) := by decide +kernel
theorem dM_lays_27 : decode cM_lays 27 = .ok (.ireturn, 1) := by decide +kernel
theorem dM_lays_28 : decode cM_lays 28 = .ok (.aload_n 0, 1) := by decide +kernel
theorem dM_lays_29 : decode cM_lays 29 = .ok (.getfield 20, 3) := by decide +kernel
theorem dM_lays_32 : decode cM_lays 32 = .ok (.iload_n 1, 1) := by decide +kernel
theorem dM_lays_33 : decode cM_lays 33 = .ok (.iload_n 3, 1) := by decide +kernel
theorem dM_lays_34 : decode cM_lays 34 = .ok (.iastore, 1) := by decide +kernel
theorem dM_lays_35 : decode cM_lays 35 = .ok (.aload_n 0, 1) := by decide +kernel
theorem dM_lays_36 : decode cM_lays 36 = .ok (.getfield 20, 3) := by decide +kernel
theorem dM_lays_39 : decode cM_lays 39 = .ok (.iload_n 1, 1) := by decide +kernel
theorem dM_lays_40 : decode cM_lays 40 = .ok (.iconst 1, 1) := by decide +kernel
theorem dM_lays_41 : decode cM_lays 41 = .ok (.iadd, 1) := by decide +kernel
theorem dM_lays_42 : decode cM_lays 42 = .ok (.iload 4, 2) := by decide +kernel
theorem dM_lays_44 : decode cM_lays 44 = .ok (.iastore, 1) := by decide +kernel
theorem dM_lays_45 : decode cM_lays 45 = .ok (.aload_n 0, 1) := by decide +kernel
theorem dM_lays_46 : decode cM_lays 46 = .ok (.getfield 20, 3) := by decide +kernel
theorem dM_lays_49 : decode cM_lays 49 = .ok (.iload_n 1, 1) := by decide +kernel
theorem dM_lays_50 : decode cM_lays 50 = .ok (.iconst 2, 1) := by decide +kernel
theorem dM_lays_51 : decode cM_lays 51 = .ok (.iadd, 1) := by decide +kernel
theorem dM_lays_52 : decode cM_lays 52 = .ok (.iload 5, 2) := by decide +kernel
theorem dM_lays_54 : decode cM_lays 54 = .ok (.iastore, 1) := by decide +kernel
theorem dM_lays_55 : decode cM_lays 55 = .ok (.iconst 1, 1) := by decide +kernel
theorem dM_lays_56 : decode cM_lays 56 = .ok (.ireturn, 1) := by decide +kernel
theorem dM_can_0 : decode cM_can 0 = .ok (.iload_n 0, 1) := by decide +kernel
theorem dM_can_1 : decode cM_can 1 = .ok (.ifCond .ne 8, 3) := by decide +kernel
theorem dM_can_4 : decode cM_can 4 = .ok (.ldc 56, 2) := by decide +kernel
theorem dM_can_6 : decode cM_can 6 = .ok (.goto 5, 3) := by decide +kernel
theorem dM_can_9 : decode cM_can 9 = .ok (.ldc 57, 2) := by decide +kernel
theorem dM_can_11 : decode cM_can 11 = .ok (.istore_n 2, 1) := by decide +kernel
theorem dM_can_12 : decode cM_can 12 = .ok (.iload_n 1, 1) := by decide +kernel
theorem dM_can_13 : decode cM_can 13 = .ok (.iload_n 2, 1) := by decide +kernel
theorem dM_can_14 : decode cM_can 14 = .ok (.ineg, 1) := by decide +kernel
theorem dM_can_15 : decode cM_can 15 = .ok (.if_icmp .lt 12, 3) := by decide +kernel
theorem dM_can_18 : decode cM_can 18 = .ok (.iload_n 1, 1) := by decide +kernel
theorem dM_can_19 : decode cM_can 19 = .ok (.iload_n 2, 1) := by decide +kernel
theorem dM_can_20 : decode cM_can 20 = .ok (.if_icmp .gt 7, 3) := by decide +kernel
theorem dM_can_23 : decode cM_can 23 = .ok (.iconst 1, 1) := by decide +kernel
theorem dM_can_24 : decode cM_can 24 = .ok (.goto 4, 3) := by decide +kernel
theorem dM_can_27 : decode cM_can 27 = .ok (.iconst 0, 1) := by decide +kernel
theorem dM_can_28 : decode cM_can 28 = .ok (.ireturn, 1) := by decide +kernel
theorem dM_hang_0 : decode cM_hang 0 = .ok (.aload_n 0, 1) := by decide +kernel
theorem dM_hang_1 : decode cM_hang 1 = .ok (.iconst 0, 1) := by decide +kernel
theorem dM_hang_2 : decode cM_hang 2 = .ok (.putfield 48, 3) := by decide +kernel
theorem dM_hang_5 : decode cM_hang 5 = .ok (.aload_n 0, 1) := by decide +kernel
theorem dM_hang_6 : decode cM_hang 6 = .ok (.iload_n 1, 1) := by decide +kernel
end
section
theorem dM_hang_7 : decode cM_hang 7 = .ok (.invokevirtual 62, 3) := by decide +kernel
theorem dM_hang_10 : decode cM_hang 10 = .ok (.ifCond .eq 13, 3) := by decide +kernel
theorem dM_hang_13 : decode cM_hang 13 = .ok (.iload_n 2, 1) := by decide +kernel
theorem dM_hang_14 : decode cM_hang 14 = .ok (.iconst (-1), 1) := by decide +kernel
theorem dM_hang_15 : decode cM_hang 15 = .ok (.if_icmp .lt 8, 3) := by decide +kernel
theorem dM_hang_18 : decode cM_hang 18 = .ok (.iload_n 2, 1) := by decide +kernel
theorem dM_hang_19 : decode cM_hang 19 = .ok (.iload_n 1, 1) := by decide +kernel
theorem dM_hang_20 : decode cM_hang 20 = .ok (.if_icmp .lt 5, 3) := by decide +kernel
theorem dM_hang_23 : decode cM_hang 23 = .ok (.iconst 0, 1) := by decide +kernel
theorem dM_hang_24 : decode cM_hang 24 = .ok (.ireturn, 1) := by decide +kernel
theorem dM_hang_25 : decode cM_hang 25 = .ok (.aload_n 0, 1) := by decide +kernel
theorem dM_hang_26 : decode cM_hang 26 = .ok (.getfield 7, 3) := by decide +kernel
theorem dM_hang_29 : decode cM_hang 29 = .ok (.iload_n 1, 1) := by decide +kernel
theorem dM_hang_30 : decode cM_hang 30 = .ok (.iload_n 2, 1) := by decide +kernel
theorem dM_hang_31 : decode cM_hang 31 = .ok (.iastore, 1) := by decide +kernel
theorem dM_hang_32 : decode cM_hang 32 = .ok (.iconst 1, 1) := by decide +kernel
theorem dM_hang_33 : decode cM_hang 33 = .ok (.ireturn, 1) := by decide +kernel
theorem dM_hide_0 : decode cM_hide 0 = .ok (.aload_n 0, 1) := by decide +kernel
theorem dM_hide_1 : decode cM_hide 1 = .ok (.iconst 0, 1) := by decide +kernel
theorem dM_hide_2 : decode cM_hide 2 = .ok (.putfield 48, 3) := by decide +kernel
theorem dM_hide_5 : decode cM_hide 5 = .ok (.aload_n 0, 1) := by decide +kernel
theorem dM_hide_6 : decode cM_hide 6 = .ok (.iload_n 1, 1) := by decide +kernel
theorem dM_hide_7 : decode cM_hide 7 = .ok (.invokevirtual 62, 3) := by decide +kernel
theorem dM_hide_10 : decode cM_hide 10 = .ok (.ifCond .ne 5, 3) := by decide +kernel
theorem dM_hide_13 : decode cM_hide 13 = .ok (.iconst 0, 1) := by decide +kernel
theorem dM_hide_14 : decode cM_hide 14 = .ok (.ireturn, 1) := by decide +kernel
theorem dM_hide_15 : decode cM_hide 15 = .ok (.aload_n 0, 1) := by decide +kernel
theorem dM_hide_16 : decode cM_hide 16 = .ok (.getfield 16, 3) := by decide +kernel
theorem dM_hide_19 : decode cM_hide 19 = .ok (.iload_n 1, 1) := by decide +kernel
theorem dM_hide_20 : decode cM_hide 20 = .ok (.iload_n 2, 1) := by decide +kernel
theorem dM_hide_21 : decode cM_hide 21 = .ok (.bastore, 1) := by decide +kernel
theorem dM_hide_22 : decode cM_hide 22 = .ok (.iconst 1, 1) := by decide +kernel
theorem dM_hide_23 : decode cM_hide 23 = .ok (.ireturn, 1) := by decide +kernel
theorem dM_camera_0 : decode cM_camera 0 = .ok (.aload_n 0, 1) := by decide +kernel
theorem dM_camera_1 : decode cM_camera 1 = .ok (.iconst 0, 1) := by decide +kernel
theorem dM_camera_2 : decode cM_camera 2 = .ok (.putfield 48, 3) := by decide +kernel
theorem dM_camera_5 : decode cM_camera 5 = .ok (.iload_n 1, 1) := by decide +kernel
theorem dM_camera_6 : decode cM_camera 6 = .ok (.ifCond .eq 8, 3) := by decide +kernel
theorem dM_camera_9 : decode cM_camera 9 = .ok (.iload_n 1, 1) := by decide +kernel
theorem dM_camera_10 : decode cM_camera 10 = .ok (.iconst 1, 1) := by decide +kernel
theorem dM_camera_11 : decode cM_camera 11 = .ok (.if_icmp .ne 26, 3) := by decide +kernel
theorem dM_camera_14 : decode cM_camera 14 = .ok (.aload_n 0, 1) := by decide +kernel
theorem dM_camera_15 : decode cM_camera 15 = .ok (.sipush 432, 3) := by decide +kernel
theorem dM_camera_18 : decode cM_camera 18 = .ok (.iconst 3, 1) := by decide +kernel
theorem dM_camera_19 : decode cM_camera 19 = .ok (.iload_n 1, 1) := by decide +kernel
theorem dM_camera_20 : decode cM_camera 20 = .ok (.imul, 1) := by decide +kernel
theorem dM_camera_21 : decode cM_camera 21 = .ok (.iadd, 1) := by decide +kernel
theorem dM_camera_22 : decode cM_camera 22 = .ok (.iload_n 1, 1) := by decide +kernel
theorem dM_camera_23 : decode cM_camera 23 = .ok (.iload_n 2, 1) := by decide +kernel
theorem dM_camera_24 : decode cM_camera 24 = .ok (.iload_n 3, 1) := by decide +kernel
theorem dM_camera_25 : decode cM_camera 25 = .ok (.iload 4, 2) := by decide +kernel
theorem dM_camera_27 : decode cM_camera 27 = .ok (.invokevirtual 66, 3) := by decide +kernel
theorem dM_camera_30 : decode cM_camera 30 = .ok (.ifCond .eq 7, 3) := by decide +kernel
theorem dM_camera_33 : decode cM_camera 33 = .ok (.iconst 1, 1) := by decide +kernel
theorem dM_camera_34 : decode cM_camera 34 = .ok (.goto 4, 3) := by decide +kernel
theorem dM_camera_37 : decode cM_camera 37 = .ok (.iconst 0, 1) := by decide +kernel
theorem dM_camera_38 : decode cM_camera 38 = .ok (.ireturn, 1) := by decide +kernel
theorem dM_world_0 : decode cM_world 0 = .ok (.aload_n 0, 1) := by decide +kernel
theorem dM_world_1 : decode cM_world 1 = .ok (.aload_n 0, 1) := by decide +kernel
theorem dM_world_2 : decode cM_world 2 = .ok (.iload_n 1, 1) := by decide +kernel
theorem dM_world_3 : decode cM_world 3 = .ok (.iload_n 2, 1) := by decide +kernel
theorem dM_world_4 : decode cM_world 4 = .ok (.iload_n 3, 1) := by decide +kernel
theorem dM_world_5 : decode cM_world 5 = .ok (.invokevirtual 118, 3) := by decide +kernel
theorem dM_world_8 : decode cM_world 8 = .ok (.ifCond .eq 7, 3) := by decide +kernel
theorem dM_world_11 : decode cM_world 11 = .ok (.iconst 0, 1) := by decide +kernel
theorem dM_world_12 : decode cM_world 12 = .ok (.goto 4, 3) := by decide +kernel
theorem dM_world_15 : decode cM_world 15 = .ok (.iconst 1, 1) := by decide +kernel
theorem dM_world_16 : decode cM_world 16 = .ok (.putfield 48, 3) := by decide +kernel
theorem dM_world_19 : decode cM_world 19 = .ok (.aload_n 0, 1) := by decide +kernel
theorem dM_world_20 : decode cM_world 20 = .ok (.getfield 48, 3) := by decide +kernel
theorem dM_world_23 : decode cM_world 23 = .ok (.iconst 1, 1) := by decide +kernel
theorem dM_world_24 : decode cM_world 24 = .ok (.if_icmp .ne 5, 3) := by decide +kernel
theorem dM_world_27 : decode cM_world 27 = .ok (.iconst 0, 1) := by decide +kernel
theorem dM_world_28 : decode cM_world 28 = .ok (.ireturn, 1) := by decide +kernel
theorem dM_world_29 : decode cM_world 29 = .ok (.aload_n 0, 1) := by decide +kernel
theorem dM_world_30 : decode cM_world 30 = .ok (.iload_n 1, 1) := by decide +kernel
theorem dM_world_31 : decode cM_world 31 = .ok (.invokevirtual 115, 3) := by decide +kernel
theorem dM_world_34 : decode cM_world 34 = .ok (.aload_n 0, 1) := by decide +kernel
theorem dM_world_35 : decode cM_world 35 = .ok (.getfield 30, 3) := by decide +kernel
theorem dM_world_38 : decode cM_world 38 = .ok (.iconst 4, 1) := by decide +kernel
theorem dM_world_39 : decode cM_world 39 = .ok (.iload_n 2, 1) := by decide +kernel
theorem dM_world_40 : decode cM_world 40 = .ok (.imul, 1) := by decide +kernel
theorem dM_world_41 : decode cM_world 41 = .ok (.iload_n 3, 1) := by decide +kernel
theorem dM_world_42 : decode cM_world 42 = .ok (.iadd, 1) := by decide +kernel
theorem dM_world_43 : decode cM_world 43 = .ok (.laload, 1) := by decide +kernel
theorem dM_world_44 : decode cM_world 44 = .ok (.l2i, 1) := by decide +kernel
theorem dM_world_45 : decode cM_world 45 = .ok (.ireturn, 1) := by decide +kernel
theorem dM_isPlace_0 : decode cM_isPlace 0 = .ok (.aload_n 0, 1) := by decide +kernel
theorem dM_isPlace_1 : decode cM_isPlace 1 = .ok (.iload_n 1, 1) := by decide +kernel
theorem dM_isPlace_2 : decode cM_isPlace 2 = .ok (.invokevirtual 62, 3) := by decide +kernel
theorem dM_isPlace_5 : decode cM_isPlace 5 = .ok (.ifCond .eq 25, 3) := by decide +kernel
theorem dM_isPlace_8 : decode cM_isPlace 8 = .ok (.iload_n 2, 1) := by decide +kernel
theorem dM_isPlace_9 : decode cM_isPlace 9 = .ok (.ifCond .lt 21, 3) := by decide +kernel
theorem dM_isPlace_12 : decode cM_isPlace 12 = .ok (.iload_n 2, 1) := by decide +kernel
theorem dM_isPlace_13 : decode cM_isPlace 13 = .ok (.iconst 3, 1) := by decide +kernel
theorem dM_isPlace_14 : decode cM_isPlace 14 = .ok (.if_icmp .ge 16, 3) := by decide +kernel
theorem dM_isPlace_17 : decode cM_isPlace 17 = .ok (.iload_n 3, 1) := by decide +kernel
theorem dM_isPlace_18 : decode cM_isPlace 18 = .ok (.ifCond .lt 12, 3) := by decide +kernel
theorem dM_isPlace_21 : decode cM_isPlace 21 = .ok (.iload_n 3, 1) := by decide +kernel
theorem dM_isPlace_22 : decode cM_isPlace 22 = .ok (.iconst 4, 1) := by decide +kernel
theorem dM_isPlace_23 : decode cM_isPlace 23 = .ok (.if_icmp .ge 7, 3) := by decide +kernel
theorem dM_isPlace_26 : decode cM_isPlace 26 = .ok (.iconst 1, 1) := by decide +kernel
theorem dM_isPlace_27 : decode cM_isPlace 27 = .ok (.goto 4, 3) := by decide +kernel
theorem dM_isPlace_30 : decode cM_isPlace 30 = .ok (.iconst 0, 1) := by decide +kernel
theorem dM_isPlace_31 : decode cM_isPlace 31 = .ok (.ireturn, 1) := by decide +kernel
theorem dM_makesWorld_0 : decode cM_makesWorld 0 = .ok (.iconst 0, 1) := by decide +kernel
theorem dM_makesWorld_1 : decode cM_makesWorld 1 = .ok (.istore_n 2, 1) := by decide +kernel
theorem dM_makesWorld_2 : decode cM_makesWorld 2 = .ok (.iload_n 1, 1) := by decide +kernel
theorem dM_makesWorld_3 : decode cM_makesWorld 3 = .ok (.istore_n 3, 1) := by decide +kernel
theorem dM_makesWorld_4 : decode cM_makesWorld 4 = .ok (.iload_n 3, 1) := by decide +kernel
theorem dM_makesWorld_5 : decode cM_makesWorld 5 = .ok (.ifCond .lt 23, 3) := by decide +kernel
theorem dM_makesWorld_8 : decode cM_makesWorld 8 = .ok (.aload_n 0, 1) := by decide +kernel
theorem dM_makesWorld_9 : decode cM_makesWorld 9 = .ok (.getfield 23, 3) := by decide +kernel
theorem dM_makesWorld_12 : decode cM_makesWorld 12 = .ok (.iload_n 2, 1) := by decide +kernel
theorem dM_makesWorld_13 : decode cM_makesWorld 13 = .ok (.iload_n 3, 1) := by decide +kernel
theorem dM_makesWorld_14 : decode cM_makesWorld 14 = .ok (.iastore, 1) := by decide +kernel
theorem dM_makesWorld_15 : decode cM_makesWorld 15 = .ok (.iinc 2 1, 3) := by decide +kernel
theorem dM_makesWorld_18 : decode cM_makesWorld 18 = .ok (.aload_n 0, 1) := by decide +kernel
theorem dM_makesWorld_19 : decode cM_makesWorld 19 = .ok (.getfield 7, 3) := by decide +kernel
theorem dM_makesWorld_22 : decode cM_makesWorld 22 = .ok (.iload_n 3, 1) := by decide +kernel
theorem dM_makesWorld_23 : decode cM_makesWorld 23 = .ok (.iaload, 1) := by decide +kernel
theorem dM_makesWorld_24 : decode cM_makesWorld 24 = .ok (.istore_n 3, 1) := by decide +kernel
theorem dM_makesWorld_25 : decode cM_makesWorld 25 = .ok (.goto (-21), 3) := by decide +kernel
theorem dM_makesWorld_28 : decode cM_makesWorld 28 = .ok (.aload_n 0, 1) := by decide +kernel
theorem dM_makesWorld_29 : decode cM_makesWorld 29 = .ok (.aload_n 0, 1) := by decide +kernel
theorem dM_makesWorld_30 : decode cM_makesWorld 30 = .ok (.getfield 23, 3) := by decide +kernel
theorem dM_makesWorld_33 : decode cM_makesWorld 33 = .ok (.iload_n 2, 1) := by decide +kernel
theorem dM_makesWorld_34 : decode cM_makesWorld 34 = .ok (.iconst 1, 1) := by decide +kernel
theorem dM_makesWorld_35 : decode cM_makesWorld 35 = .ok (.isub, 1) := by decide +kernel
theorem dM_makesWorld_36 : decode cM_makesWorld 36 = .ok (.iaload, 1) := by decide +kernel
theorem dM_makesWorld_37 : decode cM_makesWorld 37 = .ok (.invokevirtual 112, 3) := by decide +kernel
theorem dM_makesWorld_40 : decode cM_makesWorld 40 = .ok (.aload_n 0, 1) := by decide +kernel
theorem dM_makesWorld_41 : decode cM_makesWorld 41 = .ok (.getfield 42, 3) := by decide +kernel
theorem dM_makesWorld_44 : decode cM_makesWorld 44 = .ok (.aload_n 0, 1) := by decide +kernel
theorem dM_makesWorld_45 : decode cM_makesWorld 45 = .ok (.getfield 30, 3) := by decide +kernel
theorem dM_makesWorld_48 : decode cM_makesWorld 48 = .ok (.invokestatic 104, 3) := by decide +kernel
theorem dM_makesWorld_51 : decode cM_makesWorld 51 = .ok (.iload_n 2, 1) := by decide +kernel
theorem dM_makesWorld_52 : decode cM_makesWorld 52 = .ok (.iconst 2, 1) := by decide +kernel
theorem dM_makesWorld_53 : decode cM_makesWorld 53 = .ok (.isub, 1) := by decide +kernel
theorem dM_makesWorld_54 : decode cM_makesWorld 54 = .ok (.istore_n 3, 1) := by decide +kernel
theorem dM_makesWorld_55 : decode cM_makesWorld 55 = .ok (.iload_n 3, 1) := by decide +kernel
theorem dM_makesWorld_56 : decode cM_makesWorld 56 = .ok (.ifCond .lt 56, 3) := by decide +kernel
theorem dM_makesWorld_59 : decode cM_makesWorld 59 = .ok (.aload_n 0, 1) := by decide +kernel
theorem dM_makesWorld_60 : decode cM_makesWorld 60 = .ok (.getfield 30, 3) := by decide +kernel
theorem dM_makesWorld_63 : decode cM_makesWorld 63 = .ok (.aload_n 0, 1) := by decide +kernel
theorem dM_makesWorld_64 : decode cM_makesWorld 64 = .ok (.getfield 45, 3) := by decide +kernel
theorem dM_makesWorld_67 : decode cM_makesWorld 67 = .ok (.invokestatic 104, 3) := by decide +kernel
theorem dM_makesWorld_70 : decode cM_makesWorld 70 = .ok (.aload_n 0, 1) := by decide +kernel
theorem dM_makesWorld_71 : decode cM_makesWorld 71 = .ok (.aload_n 0, 1) := by decide +kernel
theorem dM_makesWorld_72 : decode cM_makesWorld 72 = .ok (.getfield 23, 3) := by decide +kernel
theorem dM_makesWorld_75 : decode cM_makesWorld 75 = .ok (.iload_n 3, 1) := by decide +kernel
theorem dM_makesWorld_76 : decode cM_makesWorld 76 = .ok (.iaload, 1) := by decide +kernel
theorem dM_makesWorld_77 : decode cM_makesWorld 77 = .ok (.invokevirtual 112, 3) := by decide +kernel
theorem dM_makesWorld_80 : decode cM_makesWorld 80 = .ok (.aload_n 0, 1) := by decide +kernel
theorem dM_makesWorld_81 : decode cM_makesWorld 81 = .ok (.getfield 45, 3) := by decide +kernel
theorem dM_makesWorld_84 : decode cM_makesWorld 84 = .ok (.aload_n 0, 1) := by decide +kernel
theorem dM_makesWorld_85 : decode cM_makesWorld 85 = .ok (.getfield 33, 3) := by decide +kernel
theorem dM_makesWorld_88 : decode cM_makesWorld 88 = .ok (.invokestatic 104, 3) := by decide +kernel
theorem dM_makesWorld_91 : decode cM_makesWorld 91 = .ok (.aload_n 0, 1) := by decide +kernel
theorem dM_makesWorld_92 : decode cM_makesWorld 92 = .ok (.getfield 42, 3) := by decide +kernel
theorem dM_makesWorld_95 : decode cM_makesWorld 95 = .ok (.aload_n 0, 1) := by decide +kernel
theorem dM_makesWorld_96 : decode cM_makesWorld 96 = .ok (.getfield 36, 3) := by decide +kernel
theorem dM_makesWorld_99 : decode cM_makesWorld 99 = .ok (.invokestatic 104, 3) := by decide +kernel
theorem dM_makesWorld_102 : decode cM_makesWorld 102 = .ok (.aload_n 0, 1) := by decide +kernel
theorem dM_makesWorld_103 : decode cM_makesWorld 103 = .ok (.invokevirtual 101, 3) := by decide +kernel
theorem dM_makesWorld_106 : decode cM_makesWorld 106 = .ok (.iinc 3 (-1), 3) := by decide +kernel
theorem dM_makesWorld_109 : decode cM_makesWorld 109 = .ok (.goto (-54), 3) := by decide +kernel
theorem dM_makesWorld_112 : decode cM_makesWorld 112 = .ok (.return_, 1) := by decide +kernel
theorem dM_makesLocal_0 : decode cM_makesLocal 0 = .ok (.aload_n 0, 1) := by decide +kernel
theorem dM_makesLocal_1 : decode cM_makesLocal 1 = .ok (.bipush 9, 2) := by decide +kernel
theorem dM_makesLocal_3 : decode cM_makesLocal 3 = .ok (.iload_n 1, 1) := by decide +kernel
theorem dM_makesLocal_4 : decode cM_makesLocal 4 = .ok (.imul, 1) := by decide +kernel
theorem dM_makesLocal_5 : decode cM_makesLocal 5 = .ok (.iconst 3, 1) := by decide +kernel
theorem dM_makesLocal_6 : decode cM_makesLocal 6 = .ok (.iadd, 1) := by decide +kernel
theorem dM_makesLocal_7 : decode cM_makesLocal 7 = .ok (.invokevirtual 108, 3) := by decide +kernel
theorem dM_makesLocal_10 : decode cM_makesLocal 10 = .ok (.iconst 0, 1) := by decide +kernel
theorem dM_makesLocal_11 : decode cM_makesLocal 11 = .ok (.istore_n 2, 1) := by decide +kernel
theorem dM_makesLocal_12 : decode cM_makesLocal 12 = .ok (.iload_n 2, 1) := by decide +kernel
theorem dM_makesLocal_13 : decode cM_makesLocal 13 = .ok (.iconst 3, 1) := by decide +kernel
theorem dM_makesLocal_14 : decode cM_makesLocal 14 = .ok (.if_icmp .ge 85, 3) := by decide +kernel
theorem dM_makesLocal_17 : decode cM_makesLocal 17 = .ok (.iconst 0, 1) := by decide +kernel
theorem dM_makesLocal_18 : decode cM_makesLocal 18 = .ok (.istore_n 3, 1) := by decide +kernel
theorem dM_makesLocal_19 : decode cM_makesLocal 19 = .ok (.iload_n 3, 1) := by decide +kernel
theorem dM_makesLocal_20 : decode cM_makesLocal 20 = .ok (.iconst 3, 1) := by decide +kernel
theorem dM_makesLocal_21 : decode cM_makesLocal 21 = .ok (.if_icmp .ge 50, 3) := by decide +kernel
theorem dM_makesLocal_24 : decode cM_makesLocal 24 = .ok (.aload_n 0, 1) := by decide +kernel
theorem dM_makesLocal_25 : decode cM_makesLocal 25 = .ok (.getfield 42, 3) := by decide +kernel
theorem dM_makesLocal_28 : decode cM_makesLocal 28 = .ok (.iconst 4, 1) := by decide +kernel
theorem dM_makesLocal_29 : decode cM_makesLocal 29 = .ok (.iload_n 2, 1) := by decide +kernel
theorem dM_makesLocal_30 : decode cM_makesLocal 30 = .ok (.imul, 1) := by decide +kernel
theorem dM_makesLocal_31 : decode cM_makesLocal 31 = .ok (.iload_n 3, 1) := by decide +kernel
theorem dM_makesLocal_32 : decode cM_makesLocal 32 = .ok (.iadd, 1) := by decide +kernel
theorem dM_makesLocal_33 : decode cM_makesLocal 33 = .ok (.aload_n 0, 1) := by decide +kernel
theorem dM_makesLocal_34 : decode cM_makesLocal 34 = .ok (.getfield 39, 3) := by decide +kernel
theorem dM_makesLocal_37 : decode cM_makesLocal 37 = .ok (.iconst 4, 1) := by decide +kernel
theorem dM_makesLocal_38 : decode cM_makesLocal 38 = .ok (.iload_n 2, 1) := by decide +kernel
theorem dM_makesLocal_39 : decode cM_makesLocal 39 = .ok (.imul, 1) := by decide +kernel
theorem dM_makesLocal_40 : decode cM_makesLocal 40 = .ok (.iload_n 3, 1) := by decide +kernel
theorem dM_makesLocal_41 : decode cM_makesLocal 41 = .ok (.iadd, 1) := by decide +kernel
theorem dM_makesLocal_42 : decode cM_makesLocal 42 = .ok (.laload, 1) := by decide +kernel
theorem dM_makesLocal_43 : decode cM_makesLocal 43 = .ok (.aload_n 0, 1) := by decide +kernel
theorem dM_makesLocal_44 : decode cM_makesLocal 44 = .ok (.getfield 20, 3) := by decide +kernel
theorem dM_makesLocal_47 : decode cM_makesLocal 47 = .ok (.bipush 9, 2) := by decide +kernel
theorem dM_makesLocal_49 : decode cM_makesLocal 49 = .ok (.iload_n 1, 1) := by decide +kernel
theorem dM_makesLocal_50 : decode cM_makesLocal 50 = .ok (.imul, 1) := by decide +kernel
theorem dM_makesLocal_51 : decode cM_makesLocal 51 = .ok (.bipush 6, 2) := by decide +kernel
theorem dM_makesLocal_53 : decode cM_makesLocal 53 = .ok (.iadd, 1) := by decide +kernel
theorem dM_makesLocal_54 : decode cM_makesLocal 54 = .ok (.iload_n 3, 1) := by decide +kernel
theorem dM_makesLocal_55 : decode cM_makesLocal 55 = .ok (.iadd, 1) := by decide +kernel
theorem dM_makesLocal_56 : decode cM_makesLocal 56 = .ok (.iaload, 1) := by decide +kernel
theorem dM_makesLocal_57 : decode cM_makesLocal 57 = .ok (.i2l, 1) := by decide +kernel
theorem dM_makesLocal_58 : decode cM_makesLocal 58 = .ok (.invokestatic 84, 3) := by decide +kernel
theorem dM_makesLocal_61 : decode cM_makesLocal 61 = .ok (.invokestatic 88, 3) := by decide +kernel
theorem dM_makesLocal_64 : decode cM_makesLocal 64 = .ok (.lastore, 1) := by decide +kernel
theorem dM_makesLocal_65 : decode cM_makesLocal 65 = .ok (.iinc 3 1, 3) := by decide +kernel
theorem dM_makesLocal_68 : decode cM_makesLocal 68 = .ok (.goto (-49), 3) := by decide +kernel
theorem dM_makesLocal_71 : decode cM_makesLocal 71 = .ok (.aload_n 0, 1) := by decide +kernel
theorem dM_makesLocal_72 : decode cM_makesLocal 72 = .ok (.getfield 42, 3) := by decide +kernel
theorem dM_makesLocal_75 : decode cM_makesLocal 75 = .ok (.iconst 4, 1) := by decide +kernel
theorem dM_makesLocal_76 : decode cM_makesLocal 76 = .ok (.iload_n 2, 1) := by decide +kernel
theorem dM_makesLocal_77 : decode cM_makesLocal 77 = .ok (.imul, 1) := by decide +kernel
theorem dM_makesLocal_78 : decode cM_makesLocal 78 = .ok (.iconst 3, 1) := by decide +kernel
theorem dM_makesLocal_79 : decode cM_makesLocal 79 = .ok (.iadd, 1) := by decide +kernel
theorem dM_makesLocal_80 : decode cM_makesLocal 80 = .ok (.aload_n 0, 1) := by decide +kernel
theorem dM_makesLocal_81 : decode cM_makesLocal 81 = .ok (.getfield 20, 3) := by decide +kernel
theorem dM_makesLocal_84 : decode cM_makesLocal 84 = .ok (.bipush 9, 2) := by decide +kernel
theorem dM_makesLocal_86 : decode cM_makesLocal 86 = .ok (.iload_n 1, 1) := by decide +kernel
theorem dM_makesLocal_87 : decode cM_makesLocal 87 = .ok (.imul, 1) := by decide +kernel
theorem dM_makesLocal_88 : decode cM_makesLocal 88 = .ok (.iload_n 2, 1) := by decide +kernel
theorem dM_makesLocal_89 : decode cM_makesLocal 89 = .ok (.iadd, 1) := by decide +kernel
theorem dM_makesLocal_90 : decode cM_makesLocal 90 = .ok (.iaload, 1) := by decide +kernel
theorem dM_makesLocal_91 : decode cM_makesLocal 91 = .ok (.i2l, 1) := by decide +kernel
theorem dM_makesLocal_92 : decode cM_makesLocal 92 = .ok (.lastore, 1) := by decide +kernel
theorem dM_makesLocal_93 : decode cM_makesLocal 93 = .ok (.iinc 2 1, 3) := by decide +kernel
theorem dM_makesLocal_96 : decode cM_makesLocal 96 = .ok (.goto (-84), 3) := by decide +kernel
theorem dM_makesLocal_99 : decode cM_makesLocal 99 = .ok (.return_, 1) := by decide +kernel
theorem dM_turn_0 : decode cM_turn 0 = .ok (.aload_n 0, 1) := by decide +kernel
theorem dM_turn_1 : decode cM_turn 1 = .ok (.getfield 33, 3) := by decide +kernel
theorem dM_turn_4 : decode cM_turn 4 = .ok (.iconst 1, 1) := by decide +kernel
theorem dM_turn_5 : decode cM_turn 5 = .ok (.aload_n 0, 1) := by decide +kernel
theorem dM_turn_6 : decode cM_turn 6 = .ok (.getfield 20, 3) := by decide +kernel
theorem dM_turn_9 : decode cM_turn 9 = .ok (.iload_n 1, 1) := by decide +kernel
theorem dM_turn_10 : decode cM_turn 10 = .ok (.iconst 1, 1) := by decide +kernel
theorem dM_turn_11 : decode cM_turn 11 = .ok (.iadd, 1) := by decide +kernel
theorem dM_turn_12 : decode cM_turn 12 = .ok (.iaload, 1) := by decide +kernel
theorem dM_turn_13 : decode cM_turn 13 = .ok (.invokestatic 97, 3) := by decide +kernel
theorem dM_turn_16 : decode cM_turn 16 = .ok (.aload_n 0, 1) := by decide +kernel
theorem dM_turn_17 : decode cM_turn 17 = .ok (.getfield 36, 3) := by decide +kernel
theorem dM_turn_20 : decode cM_turn 20 = .ok (.iconst 0, 1) := by decide +kernel
theorem dM_turn_21 : decode cM_turn 21 = .ok (.aload_n 0, 1) := by decide +kernel
theorem dM_turn_22 : decode cM_turn 22 = .ok (.getfield 20, 3) := by decide +kernel
theorem dM_turn_25 : decode cM_turn 25 = .ok (.iload_n 1, 1) := by decide +kernel
theorem dM_turn_26 : decode cM_turn 26 = .ok (.iaload, 1) := by decide +kernel
theorem dM_turn_27 : decode cM_turn 27 = .ok (.invokestatic 97, 3) := by decide +kernel
theorem dM_turn_30 : decode cM_turn 30 = .ok (.aload_n 0, 1) := by decide +kernel
theorem dM_turn_31 : decode cM_turn 31 = .ok (.invokevirtual 101, 3) := by decide +kernel
theorem dM_turn_34 : decode cM_turn 34 = .ok (.aload_n 0, 1) := by decide +kernel
theorem dM_turn_35 : decode cM_turn 35 = .ok (.getfield 30, 3) := by decide +kernel
theorem dM_turn_38 : decode cM_turn 38 = .ok (.aload_n 0, 1) := by decide +kernel
theorem dM_turn_39 : decode cM_turn 39 = .ok (.getfield 33, 3) := by decide +kernel
theorem dM_turn_42 : decode cM_turn 42 = .ok (.invokestatic 104, 3) := by decide +kernel
theorem dM_turn_45 : decode cM_turn 45 = .ok (.aload_n 0, 1) := by decide +kernel
theorem dM_turn_46 : decode cM_turn 46 = .ok (.getfield 36, 3) := by decide +kernel
theorem dM_turn_49 : decode cM_turn 49 = .ok (.iconst 2, 1) := by decide +kernel
theorem dM_turn_50 : decode cM_turn 50 = .ok (.aload_n 0, 1) := by decide +kernel
theorem dM_turn_51 : decode cM_turn 51 = .ok (.getfield 20, 3) := by decide +kernel
theorem dM_turn_54 : decode cM_turn 54 = .ok (.iload_n 1, 1) := by decide +kernel
theorem dM_turn_55 : decode cM_turn 55 = .ok (.iconst 2, 1) := by decide +kernel
theorem dM_turn_56 : decode cM_turn 56 = .ok (.iadd, 1) := by decide +kernel
theorem dM_turn_57 : decode cM_turn 57 = .ok (.iaload, 1) := by decide +kernel
theorem dM_turn_58 : decode cM_turn 58 = .ok (.invokestatic 97, 3) := by decide +kernel
theorem dM_turn_61 : decode cM_turn 61 = .ok (.aload_n 0, 1) := by decide +kernel
theorem dM_turn_62 : decode cM_turn 62 = .ok (.invokevirtual 101, 3) := by decide +kernel
theorem dM_turn_65 : decode cM_turn 65 = .ok (.aload_n 0, 1) := by decide +kernel
theorem dM_turn_66 : decode cM_turn 66 = .ok (.getfield 30, 3) := by decide +kernel
theorem dM_turn_69 : decode cM_turn 69 = .ok (.aload_n 0, 1) := by decide +kernel
theorem dM_turn_70 : decode cM_turn 70 = .ok (.getfield 39, 3) := by decide +kernel
theorem dM_turn_73 : decode cM_turn 73 = .ok (.invokestatic 104, 3) := by decide +kernel
theorem dM_turn_76 : decode cM_turn 76 = .ok (.return_, 1) := by decide +kernel
theorem dM_axis_0 : decode cM_axis 0 = .ok (.iconst 0, 1) := by decide +kernel
theorem dM_axis_1 : decode cM_axis 1 = .ok (.istore_n 3, 1) := by decide +kernel
theorem dM_axis_2 : decode cM_axis 2 = .ok (.iload_n 3, 1) := by decide +kernel
theorem dM_axis_3 : decode cM_axis 3 = .ok (.bipush 12, 2) := by decide +kernel
theorem dM_axis_5 : decode cM_axis 5 = .ok (.if_icmp .ge 25, 3) := by decide +kernel
theorem dM_axis_8 : decode cM_axis 8 = .ok (.aload_n 0, 1) := by decide +kernel
theorem dM_axis_9 : decode cM_axis 9 = .ok (.iload_n 3, 1) := by decide +kernel
theorem dM_axis_10 : decode cM_axis 10 = .ok (.iload_n 3, 1) := by decide +kernel
theorem dM_axis_11 : decode cM_axis 11 = .ok (.iconst 5, 1) := by decide +kernel
theorem dM_axis_12 : decode cM_axis 12 = .ok (.irem, 1) := by decide +kernel
theorem dM_axis_13 : decode cM_axis 13 = .ok (.ifCond .ne 9, 3) := by decide +kernel
theorem dM_axis_16 : decode cM_axis 16 = .ok (.ldc2_w 92, 3) := by decide +kernel
theorem dM_axis_19 : decode cM_axis 19 = .ok (.goto 4, 3) := by decide +kernel
theorem dM_axis_22 : decode cM_axis 22 = .ok (.lconst 0, 1) := by decide +kernel
theorem dM_axis_23 : decode cM_axis 23 = .ok (.lastore, 1) := by decide +kernel
theorem dM_axis_24 : decode cM_axis 24 = .ok (.iinc 3 1, 3) := by decide +kernel
theorem dM_axis_27 : decode cM_axis 27 = .ok (.goto (-25), 3) := by decide +kernel
theorem dM_axis_30 : decode cM_axis 30 = .ok (.iload_n 1, 1) := by decide +kernel
theorem dM_axis_31 : decode cM_axis 31 = .ok (.ifCond .ne 7, 3) := by decide +kernel
theorem dM_axis_34 : decode cM_axis 34 = .ok (.iconst 1, 1) := by decide +kernel
theorem dM_axis_35 : decode cM_axis 35 = .ok (.goto 13, 3) := by decide +kernel
theorem dM_axis_38 : decode cM_axis 38 = .ok (.iload_n 1, 1) := by decide +kernel
theorem dM_axis_39 : decode cM_axis 39 = .ok (.iconst 1, 1) := by decide +kernel
theorem dM_axis_40 : decode cM_axis 40 = .ok (.if_icmp .ne 7, 3) := by decide +kernel
theorem dM_axis_43 : decode cM_axis 43 = .ok (.iconst 2, 1) := by decide +kernel
theorem dM_axis_44 : decode cM_axis 44 = .ok (.goto 4, 3) := by decide +kernel
theorem dM_axis_47 : decode cM_axis 47 = .ok (.iconst 0, 1) := by decide +kernel
theorem dM_axis_48 : decode cM_axis 48 = .ok (.istore_n 3, 1) := by decide +kernel
theorem dM_axis_49 : decode cM_axis 49 = .ok (.iload_n 1, 1) := by decide +kernel
theorem dM_axis_50 : decode cM_axis 50 = .ok (.ifCond .ne 7, 3) := by decide +kernel
theorem dM_axis_53 : decode cM_axis 53 = .ok (.iconst 2, 1) := by decide +kernel
theorem dM_axis_54 : decode cM_axis 54 = .ok (.goto 13, 3) := by decide +kernel
theorem dM_axis_57 : decode cM_axis 57 = .ok (.iload_n 1, 1) := by decide +kernel
theorem dM_axis_58 : decode cM_axis 58 = .ok (.iconst 1, 1) := by decide +kernel
theorem dM_axis_59 : decode cM_axis 59 = .ok (.if_icmp .ne 7, 3) := by decide +kernel
theorem dM_axis_62 : decode cM_axis 62 = .ok (.iconst 0, 1) := by decide +kernel
theorem dM_axis_63 : decode cM_axis 63 = .ok (.goto 4, 3) := by decide +kernel
theorem dM_axis_66 : decode cM_axis 66 = .ok (.iconst 1, 1) := by decide +kernel
theorem dM_axis_67 : decode cM_axis 67 = .ok (.istore 4, 2) := by decide +kernel
theorem dM_axis_69 : decode cM_axis 69 = .ok (.aload_n 0, 1) := by decide +kernel
theorem dM_axis_70 : decode cM_axis 70 = .ok (.iconst 4, 1) := by decide +kernel
theorem dM_axis_71 : decode cM_axis 71 = .ok (.iload_n 3, 1) := by decide +kernel
theorem dM_axis_72 : decode cM_axis 72 = .ok (.imul, 1) := by decide +kernel
theorem dM_axis_73 : decode cM_axis 73 = .ok (.iload_n 3, 1) := by decide +kernel
theorem dM_axis_74 : decode cM_axis 74 = .ok (.iadd, 1) := by decide +kernel
theorem dM_axis_75 : decode cM_axis 75 = .ok (.iload_n 2, 1) := by decide +kernel
theorem dM_axis_76 : decode cM_axis 76 = .ok (.invokestatic 94, 3) := by decide +kernel
theorem dM_axis_79 : decode cM_axis 79 = .ok (.lastore, 1) := by decide +kernel
theorem dM_axis_80 : decode cM_axis 80 = .ok (.aload_n 0, 1) := by decide +kernel
theorem dM_axis_81 : decode cM_axis 81 = .ok (.iconst 4, 1) := by decide +kernel
theorem dM_axis_82 : decode cM_axis 82 = .ok (.iload_n 3, 1) := by decide +kernel
theorem dM_axis_83 : decode cM_axis 83 = .ok (.imul, 1) := by decide +kernel
theorem dM_axis_84 : decode cM_axis 84 = .ok (.iload 4, 2) := by decide +kernel
theorem dM_axis_86 : decode cM_axis 86 = .ok (.iadd, 1) := by decide +kernel
theorem dM_axis_87 : decode cM_axis 87 = .ok (.iload_n 2, 1) := by decide +kernel
theorem dM_axis_88 : decode cM_axis 88 = .ok (.invokestatic 80, 3) := by decide +kernel
theorem dM_axis_91 : decode cM_axis 91 = .ok (.lneg, 1) := by decide +kernel
theorem dM_axis_92 : decode cM_axis 92 = .ok (.lastore, 1) := by decide +kernel
theorem dM_axis_93 : decode cM_axis 93 = .ok (.aload_n 0, 1) := by decide +kernel
theorem dM_axis_94 : decode cM_axis 94 = .ok (.iconst 4, 1) := by decide +kernel
theorem dM_axis_95 : decode cM_axis 95 = .ok (.iload 4, 2) := by decide +kernel
theorem dM_axis_97 : decode cM_axis 97 = .ok (.imul, 1) := by decide +kernel
theorem dM_axis_98 : decode cM_axis 98 = .ok (.iload_n 3, 1) := by decide +kernel
theorem dM_axis_99 : decode cM_axis 99 = .ok (.iadd, 1) := by decide +kernel
theorem dM_axis_100 : decode cM_axis 100 = .ok (.iload_n 2, 1) := by decide +kernel
theorem dM_axis_101 : decode cM_axis 101 = .ok (.invokestatic 80, 3) := by decide +kernel
theorem dM_axis_104 : decode cM_axis 104 = .ok (.lastore, 1) := by decide +kernel
theorem dM_axis_105 : decode cM_axis 105 = .ok (.aload_n 0, 1) := by decide +kernel
theorem dM_axis_106 : decode cM_axis 106 = .ok (.iconst 4, 1) := by decide +kernel
theorem dM_axis_107 : decode cM_axis 107 = .ok (.iload 4, 2) := by decide +kernel
theorem dM_axis_109 : decode cM_axis 109 = .ok (.imul, 1) := by decide +kernel
theorem dM_axis_110 : decode cM_axis 110 = .ok (.iload 4, 2) := by decide +kernel
theorem dM_axis_112 : decode cM_axis 112 = .ok (.iadd, 1) := by decide +kernel
theorem dM_axis_113 : decode cM_axis 113 = .ok (.iload_n 2, 1) := by decide +kernel
theorem dM_axis_114 : decode cM_axis 114 = .ok (.invokestatic 94, 3) := by decide +kernel
theorem dM_axis_117 : decode cM_axis 117 = .ok (.lastore, 1) := by decide +kernel
theorem dM_axis_118 : decode cM_axis 118 = .ok (.return_, 1) := by decide +kernel
theorem dM_cos_0 : decode cM_cos 0 = .ok (.iload_n 0, 1) := by decide +kernel
theorem dM_cos_1 : decode cM_cos 1 = .ok (.sipush 1024, 3) := by decide +kernel
theorem dM_cos_4 : decode cM_cos 4 = .ok (.iadd, 1) := by decide +kernel
theorem dM_cos_5 : decode cM_cos 5 = .ok (.invokestatic 80, 3) := by decide +kernel
theorem dM_cos_8 : decode cM_cos 8 = .ok (.lreturn, 1) := by decide +kernel
theorem dM_sin_0 : decode cM_sin 0 = .ok (.iload_n 0, 1) := by decide +kernel
theorem dM_sin_1 : decode cM_sin 1 = .ok (.sipush 4096, 3) := by decide +kernel
theorem dM_sin_4 : decode cM_sin 4 = .ok (.irem, 1) := by decide +kernel
theorem dM_sin_5 : decode cM_sin 5 = .ok (.sipush 4096, 3) := by decide +kernel
theorem dM_sin_8 : decode cM_sin 8 = .ok (.iadd, 1) := by decide +kernel
theorem dM_sin_9 : decode cM_sin 9 = .ok (.sipush 4096, 3) := by decide +kernel
theorem dM_sin_12 : decode cM_sin 12 = .ok (.irem, 1) := by decide +kernel
theorem dM_sin_13 : decode cM_sin 13 = .ok (.istore_n 1, 1) := by decide +kernel
theorem dM_sin_14 : decode cM_sin 14 = .ok (.iload_n 1, 1) := by decide +kernel
theorem dM_sin_15 : decode cM_sin 15 = .ok (.sipush 2048, 3) := by decide +kernel
theorem dM_sin_18 : decode cM_sin 18 = .ok (.irem, 1) := by decide +kernel
theorem dM_sin_19 : decode cM_sin 19 = .ok (.i2l, 1) := by decide +kernel
theorem dM_sin_20 : decode cM_sin 20 = .ok (.sipush 2048, 3) := by decide +kernel
theorem dM_sin_23 : decode cM_sin 23 = .ok (.iload_n 1, 1) := by decide +kernel
theorem dM_sin_24 : decode cM_sin 24 = .ok (.sipush 2048, 3) := by decide +kernel
theorem dM_sin_27 : decode cM_sin 27 = .ok (.irem, 1) := by decide +kernel
theorem dM_sin_28 : decode cM_sin 28 = .ok (.isub, 1) := by decide +kernel
theorem dM_sin_29 : decode cM_sin 29 = .ok (.i2l, 1) := by decide +kernel
theorem dM_sin_30 : decode cM_sin 30 = .ok (.lmul, 1) := by decide +kernel
theorem dM_sin_31 : decode cM_sin 31 = .ok (.lstore_n 2, 1) := by decide +kernel
theorem dM_sin_32 : decode cM_sin 32 = .ok (.ldc2_w 74, 3) := by decide +kernel
theorem dM_sin_35 : decode cM_sin 35 = .ok (.lload_n 2, 1) := by decide +kernel
theorem dM_sin_36 : decode cM_sin 36 = .ok (.lmul, 1) := by decide +kernel
theorem dM_sin_37 : decode cM_sin 37 = .ok (.ldc2_w 76, 3) := by decide +kernel
theorem dM_sin_40 : decode cM_sin 40 = .ok (.ldc2_w 78, 3) := by decide +kernel
theorem dM_sin_43 : decode cM_sin 43 = .ok (.lload_n 2, 1) := by decide +kernel
theorem dM_sin_44 : decode cM_sin 44 = .ok (.lmul, 1) := by decide +kernel
theorem dM_sin_45 : decode cM_sin 45 = .ok (.lsub, 1) := by decide +kernel
theorem dM_sin_46 : decode cM_sin 46 = .ok (.ldiv, 1) := by decide +kernel
theorem dM_sin_47 : decode cM_sin 47 = .ok (.lstore 4, 2) := by decide +kernel
theorem dM_sin_49 : decode cM_sin 49 = .ok (.iload_n 1, 1) := by decide +kernel
theorem dM_sin_50 : decode cM_sin 50 = .ok (.sipush 2048, 3) := by decide +kernel
theorem dM_sin_53 : decode cM_sin 53 = .ok (.if_icmp .ge 8, 3) := by decide +kernel
theorem dM_sin_56 : decode cM_sin 56 = .ok (.lload 4, 2) := by decide +kernel
theorem dM_sin_58 : decode cM_sin 58 = .ok (.goto 6, 3) := by decide +kernel
theorem dM_sin_61 : decode cM_sin 61 = .ok (.lload 4, 2) := by decide +kernel
theorem dM_sin_63 : decode cM_sin 63 = .ok (.lneg, 1) := by decide +kernel
theorem dM_sin_64 : decode cM_sin 64 = .ok (.lreturn, 1) := by decide +kernel
theorem dM_times_0 : decode cM_times 0 = .ok (.iconst 0, 1) := by decide +kernel
theorem dM_times_1 : decode cM_times 1 = .ok (.istore_n 1, 1) := by decide +kernel
theorem dM_times_2 : decode cM_times 2 = .ok (.iload_n 1, 1) := by decide +kernel
theorem dM_times_3 : decode cM_times 3 = .ok (.iconst 3, 1) := by decide +kernel
theorem dM_times_4 : decode cM_times 4 = .ok (.if_icmp .ge 99, 3) := by decide +kernel
theorem dM_times_7 : decode cM_times 7 = .ok (.iconst 0, 1) := by decide +kernel
theorem dM_times_8 : decode cM_times 8 = .ok (.istore_n 2, 1) := by decide +kernel
theorem dM_times_9 : decode cM_times 9 = .ok (.iload_n 2, 1) := by decide +kernel
theorem dM_times_10 : decode cM_times 10 = .ok (.iconst 4, 1) := by decide +kernel
theorem dM_times_11 : decode cM_times 11 = .ok (.if_icmp .ge 86, 3) := by decide +kernel
theorem dM_times_14 : decode cM_times 14 = .ok (.iload_n 2, 1) := by decide +kernel
theorem dM_times_15 : decode cM_times 15 = .ok (.iconst 3, 1) := by decide +kernel
theorem dM_times_16 : decode cM_times 16 = .ok (.if_icmp .ne 16, 3) := by decide +kernel
theorem dM_times_19 : decode cM_times 19 = .ok (.aload_n 0, 1) := by decide +kernel
theorem dM_times_20 : decode cM_times 20 = .ok (.getfield 33, 3) := by decide +kernel
theorem dM_times_23 : decode cM_times 23 = .ok (.iconst 4, 1) := by decide +kernel
theorem dM_times_24 : decode cM_times 24 = .ok (.iload_n 1, 1) := by decide +kernel
theorem dM_times_25 : decode cM_times 25 = .ok (.imul, 1) := by decide +kernel
theorem dM_times_26 : decode cM_times 26 = .ok (.iconst 3, 1) := by decide +kernel
theorem dM_times_27 : decode cM_times 27 = .ok (.iadd, 1) := by decide +kernel
theorem dM_times_28 : decode cM_times 28 = .ok (.laload, 1) := by decide +kernel
theorem dM_times_29 : decode cM_times 29 = .ok (.goto 4, 3) := by decide +kernel
theorem dM_times_32 : decode cM_times 32 = .ok (.lconst 0, 1) := by decide +kernel
theorem dM_times_33 : decode cM_times 33 = .ok (.lstore_n 3, 1) := by decide +kernel
theorem dM_times_34 : decode cM_times 34 = .ok (.iconst 0, 1) := by decide +kernel
theorem dM_times_35 : decode cM_times 35 = .ok (.istore 5, 2) := by decide +kernel
theorem dM_times_37 : decode cM_times 37 = .ok (.iload 5, 2) := by decide +kernel
theorem dM_times_39 : decode cM_times 39 = .ok (.iconst 3, 1) := by decide +kernel
theorem dM_times_40 : decode cM_times 40 = .ok (.if_icmp .ge 37, 3) := by decide +kernel
theorem dM_times_43 : decode cM_times 43 = .ok (.lload_n 3, 1) := by decide +kernel
theorem dM_times_44 : decode cM_times 44 = .ok (.aload_n 0, 1) := by decide +kernel
theorem dM_times_45 : decode cM_times 45 = .ok (.getfield 33, 3) := by decide +kernel
theorem dM_times_48 : decode cM_times 48 = .ok (.iconst 4, 1) := by decide +kernel
theorem dM_times_49 : decode cM_times 49 = .ok (.iload_n 1, 1) := by decide +kernel
theorem dM_times_50 : decode cM_times 50 = .ok (.imul, 1) := by decide +kernel
theorem dM_times_51 : decode cM_times 51 = .ok (.iload 5, 2) := by decide +kernel
theorem dM_times_53 : decode cM_times 53 = .ok (.iadd, 1) := by decide +kernel
theorem dM_times_54 : decode cM_times 54 = .ok (.laload, 1) := by decide +kernel
theorem dM_times_55 : decode cM_times 55 = .ok (.aload_n 0, 1) := by decide +kernel
theorem dM_times_56 : decode cM_times 56 = .ok (.getfield 36, 3) := by decide +kernel
theorem dM_times_59 : decode cM_times 59 = .ok (.iconst 4, 1) := by decide +kernel
theorem dM_times_60 : decode cM_times 60 = .ok (.iload 5, 2) := by decide +kernel
theorem dM_times_62 : decode cM_times 62 = .ok (.imul, 1) := by decide +kernel
theorem dM_times_63 : decode cM_times 63 = .ok (.iload_n 2, 1) := by decide +kernel
theorem dM_times_64 : decode cM_times 64 = .ok (.iadd, 1) := by decide +kernel
theorem dM_times_65 : decode cM_times 65 = .ok (.laload, 1) := by decide +kernel
theorem dM_times_66 : decode cM_times 66 = .ok (.invokestatic 84, 3) := by decide +kernel
theorem dM_times_69 : decode cM_times 69 = .ok (.ladd, 1) := by decide +kernel
theorem dM_times_70 : decode cM_times 70 = .ok (.lstore_n 3, 1) := by decide +kernel
theorem dM_times_71 : decode cM_times 71 = .ok (.iinc 5 1, 3) := by decide +kernel
theorem dM_times_74 : decode cM_times 74 = .ok (.goto (-37), 3) := by decide +kernel
theorem dM_times_77 : decode cM_times 77 = .ok (.aload_n 0, 1) := by decide +kernel
theorem dM_times_78 : decode cM_times 78 = .ok (.getfield 30, 3) := by decide +kernel
theorem dM_times_81 : decode cM_times 81 = .ok (.iconst 4, 1) := by decide +kernel
theorem dM_times_82 : decode cM_times 82 = .ok (.iload_n 1, 1) := by decide +kernel
theorem dM_times_83 : decode cM_times 83 = .ok (.imul, 1) := by decide +kernel
theorem dM_times_84 : decode cM_times 84 = .ok (.iload_n 2, 1) := by decide +kernel
theorem dM_times_85 : decode cM_times 85 = .ok (.iadd, 1) := by decide +kernel
theorem dM_times_86 : decode cM_times 86 = .ok (.lload_n 3, 1) := by decide +kernel
theorem dM_times_87 : decode cM_times 87 = .ok (.invokestatic 88, 3) := by decide +kernel
theorem dM_times_90 : decode cM_times 90 = .ok (.lastore, 1) := by decide +kernel
theorem dM_times_91 : decode cM_times 91 = .ok (.iinc 2 1, 3) := by decide +kernel
theorem dM_times_94 : decode cM_times 94 = .ok (.goto (-85), 3) := by decide +kernel
theorem dM_times_97 : decode cM_times 97 = .ok (.iinc 1 1, 3) := by decide +kernel
theorem dM_times_100 : decode cM_times 100 = .ok (.goto (-98), 3) := by decide +kernel
theorem dM_times_103 : decode cM_times 103 = .ok (.return_, 1) := by decide +kernel
theorem dM_mul_0 : decode cM_mul 0 = .ok (.lload_n 0, 1) := by decide +kernel
theorem dM_mul_1 : decode cM_mul 1 = .ok (.lload_n 2, 1) := by decide +kernel
theorem dM_mul_2 : decode cM_mul 2 = .ok (.lmul, 1) := by decide +kernel
theorem dM_mul_3 : decode cM_mul 3 = .ok (.bipush 16, 2) := by decide +kernel
theorem dM_mul_5 : decode cM_mul 5 = .ok (.lshr, 1) := by decide +kernel
theorem dM_mul_6 : decode cM_mul 6 = .ok (.lreturn, 1) := by decide +kernel
theorem dM_bound_0 : decode cM_bound 0 = .ok (.lload_n 0, 1) := by decide +kernel
theorem dM_bound_1 : decode cM_bound 1 = .ok (.ldc2_w 70, 3) := by decide +kernel
theorem dM_bound_4 : decode cM_bound 4 = .ok (.lcmp, 1) := by decide +kernel
theorem dM_bound_5 : decode cM_bound 5 = .ok (.ifCond .ge 9, 3) := by decide +kernel
theorem dM_bound_8 : decode cM_bound 8 = .ok (.ldc2_w 70, 3) := by decide +kernel
theorem dM_bound_11 : decode cM_bound 11 = .ok (.goto 18, 3) := by decide +kernel
theorem dM_bound_14 : decode cM_bound 14 = .ok (.lload_n 0, 1) := by decide +kernel
theorem dM_bound_15 : decode cM_bound 15 = .ok (.ldc2_w 72, 3) := by decide +kernel
theorem dM_bound_18 : decode cM_bound 18 = .ok (.lcmp, 1) := by decide +kernel
theorem dM_bound_19 : decode cM_bound 19 = .ok (.ifCond .le 9, 3) := by decide +kernel
theorem dM_bound_22 : decode cM_bound 22 = .ok (.ldc2_w 72, 3) := by decide +kernel
theorem dM_bound_25 : decode cM_bound 25 = .ok (.goto 4, 3) := by decide +kernel
theorem dM_bound_28 : decode cM_bound 28 = .ok (.lload_n 0, 1) := by decide +kernel
theorem dM_bound_29 : decode cM_bound 29 = .ok (.lreturn, 1) := by decide +kernel
theorem dM_copy_0 : decode cM_copy 0 = .ok (.iconst 0, 1) := by decide +kernel
theorem dM_copy_1 : decode cM_copy 1 = .ok (.istore_n 2, 1) := by decide +kernel
theorem dM_copy_2 : decode cM_copy 2 = .ok (.iload_n 2, 1) := by decide +kernel
theorem dM_copy_3 : decode cM_copy 3 = .ok (.bipush 12, 2) := by decide +kernel
theorem dM_copy_5 : decode cM_copy 5 = .ok (.if_icmp .ge 15, 3) := by decide +kernel
theorem dM_copy_8 : decode cM_copy 8 = .ok (.aload_n 1, 1) := by decide +kernel
theorem dM_copy_9 : decode cM_copy 9 = .ok (.iload_n 2, 1) := by decide +kernel
theorem dM_copy_10 : decode cM_copy 10 = .ok (.aload_n 0, 1) := by decide +kernel
theorem dM_copy_11 : decode cM_copy 11 = .ok (.iload_n 2, 1) := by decide +kernel
theorem dM_copy_12 : decode cM_copy 12 = .ok (.laload, 1) := by decide +kernel
theorem dM_copy_13 : decode cM_copy 13 = .ok (.lastore, 1) := by decide +kernel
theorem dM_copy_14 : decode cM_copy 14 = .ok (.iinc 2 1, 3) := by decide +kernel
theorem dM_copy_17 : decode cM_copy 17 = .ok (.goto (-15), 3) := by decide +kernel
theorem dM_copy_20 : decode cM_copy 20 = .ok (.return_, 1) := by decide +kernel
theorem dM_model_0 : decode cM_model 0 = .ok (.aload_n 0, 1) := by decide +kernel
theorem dM_model_1 : decode cM_model 1 = .ok (.aload_n 0, 1) := by decide +kernel
theorem dM_model_2 : decode cM_model 2 = .ok (.iload_n 1, 1) := by decide +kernel
theorem dM_model_3 : decode cM_model 3 = .ok (.iload_n 2, 1) := by decide +kernel
theorem dM_model_4 : decode cM_model 4 = .ok (.iload_n 3, 1) := by decide +kernel
theorem dM_model_5 : decode cM_model 5 = .ok (.invokevirtual 118, 3) := by decide +kernel
theorem dM_model_8 : decode cM_model 8 = .ok (.ifCond .eq 7, 3) := by decide +kernel
theorem dM_model_11 : decode cM_model 11 = .ok (.iconst 0, 1) := by decide +kernel
theorem dM_model_12 : decode cM_model 12 = .ok (.goto 4, 3) := by decide +kernel
theorem dM_model_15 : decode cM_model 15 = .ok (.iconst 1, 1) := by decide +kernel
theorem dM_model_16 : decode cM_model 16 = .ok (.putfield 48, 3) := by decide +kernel
theorem dM_model_19 : decode cM_model 19 = .ok (.aload_n 0, 1) := by decide +kernel
theorem dM_model_20 : decode cM_model 20 = .ok (.getfield 48, 3) := by decide +kernel
theorem dM_model_23 : decode cM_model 23 = .ok (.iconst 1, 1) := by decide +kernel
theorem dM_model_24 : decode cM_model 24 = .ok (.if_icmp .ne 5, 3) := by decide +kernel
theorem dM_model_27 : decode cM_model 27 = .ok (.iconst 0, 1) := by decide +kernel
theorem dM_model_28 : decode cM_model 28 = .ok (.ireturn, 1) := by decide +kernel
theorem dM_model_29 : decode cM_model 29 = .ok (.aload_n 0, 1) := by decide +kernel
theorem dM_model_30 : decode cM_model 30 = .ok (.iload_n 1, 1) := by decide +kernel
theorem dM_model_31 : decode cM_model 31 = .ok (.invokevirtual 122, 3) := by decide +kernel
theorem dM_model_34 : decode cM_model 34 = .ok (.aload_n 0, 1) := by decide +kernel
theorem dM_model_35 : decode cM_model 35 = .ok (.getfield 30, 3) := by decide +kernel
theorem dM_model_38 : decode cM_model 38 = .ok (.iconst 4, 1) := by decide +kernel
theorem dM_model_39 : decode cM_model 39 = .ok (.iload_n 2, 1) := by decide +kernel
theorem dM_model_40 : decode cM_model 40 = .ok (.imul, 1) := by decide +kernel
theorem dM_model_41 : decode cM_model 41 = .ok (.iload_n 3, 1) := by decide +kernel
theorem dM_model_42 : decode cM_model 42 = .ok (.iadd, 1) := by decide +kernel
theorem dM_model_43 : decode cM_model 43 = .ok (.laload, 1) := by decide +kernel
theorem dM_model_44 : decode cM_model 44 = .ok (.l2i, 1) := by decide +kernel
theorem dM_model_45 : decode cM_model 45 = .ok (.ireturn, 1) := by decide +kernel
theorem dM_makesModel_0 : decode cM_makesModel 0 = .ok (.aload_n 0, 1) := by decide +kernel
theorem dM_makesModel_1 : decode cM_makesModel 1 = .ok (.iload_n 1, 1) := by decide +kernel
theorem dM_makesModel_2 : decode cM_makesModel 2 = .ok (.invokevirtual 115, 3) := by decide +kernel
theorem dM_makesModel_5 : decode cM_makesModel 5 = .ok (.aload_n 0, 1) := by decide +kernel
theorem dM_makesModel_6 : decode cM_makesModel 6 = .ok (.getfield 30, 3) := by decide +kernel
theorem dM_makesModel_9 : decode cM_makesModel 9 = .ok (.aload_n 0, 1) := by decide +kernel
theorem dM_makesModel_10 : decode cM_makesModel 10 = .ok (.getfield 45, 3) := by decide +kernel
theorem dM_makesModel_13 : decode cM_makesModel 13 = .ok (.invokestatic 104, 3) := by decide +kernel
theorem dM_makesModel_16 : decode cM_makesModel 16 = .ok (.aload_n 0, 1) := by decide +kernel
theorem dM_makesModel_17 : decode cM_makesModel 17 = .ok (.sipush 435, 3) := by decide +kernel
theorem dM_makesModel_20 : decode cM_makesModel 20 = .ok (.invokevirtual 108, 3) := by decide +kernel
theorem dM_makesModel_23 : decode cM_makesModel 23 = .ok (.iconst 0, 1) := by decide +kernel
theorem dM_makesModel_24 : decode cM_makesModel 24 = .ok (.istore_n 2, 1) := by decide +kernel
theorem dM_makesModel_25 : decode cM_makesModel 25 = .ok (.iload_n 2, 1) := by decide +kernel
theorem dM_makesModel_26 : decode cM_makesModel 26 = .ok (.iconst 3, 1) := by decide +kernel
theorem dM_makesModel_27 : decode cM_makesModel 27 = .ok (.if_icmp .ge 92, 3) := by decide +kernel
theorem dM_makesModel_30 : decode cM_makesModel 30 = .ok (.lconst 0, 1) := by decide +kernel
theorem dM_makesModel_31 : decode cM_makesModel 31 = .ok (.lstore_n 3, 1) := by decide +kernel
theorem dM_makesModel_32 : decode cM_makesModel 32 = .ok (.iconst 0, 1) := by decide +kernel
theorem dM_makesModel_33 : decode cM_makesModel 33 = .ok (.istore 5, 2) := by decide +kernel
theorem dM_makesModel_35 : decode cM_makesModel 35 = .ok (.iload 5, 2) := by decide +kernel
theorem dM_makesModel_37 : decode cM_makesModel 37 = .ok (.iconst 3, 1) := by decide +kernel
theorem dM_makesModel_38 : decode cM_makesModel 38 = .ok (.if_icmp .ge 60, 3) := by decide +kernel
theorem dM_makesModel_41 : decode cM_makesModel 41 = .ok (.aload_n 0, 1) := by decide +kernel
theorem dM_makesModel_42 : decode cM_makesModel 42 = .ok (.getfield 33, 3) := by decide +kernel
theorem dM_makesModel_45 : decode cM_makesModel 45 = .ok (.iconst 4, 1) := by decide +kernel
theorem dM_makesModel_46 : decode cM_makesModel 46 = .ok (.iload_n 2, 1) := by decide +kernel
theorem dM_makesModel_47 : decode cM_makesModel 47 = .ok (.imul, 1) := by decide +kernel
theorem dM_makesModel_48 : decode cM_makesModel 48 = .ok (.iload 5, 2) := by decide +kernel
theorem dM_makesModel_50 : decode cM_makesModel 50 = .ok (.iadd, 1) := by decide +kernel
theorem dM_makesModel_51 : decode cM_makesModel 51 = .ok (.aload_n 0, 1) := by decide +kernel
theorem dM_makesModel_52 : decode cM_makesModel 52 = .ok (.getfield 39, 3) := by decide +kernel
theorem dM_makesModel_55 : decode cM_makesModel 55 = .ok (.iconst 4, 1) := by decide +kernel
theorem dM_makesModel_56 : decode cM_makesModel 56 = .ok (.iload 5, 2) := by decide +kernel
theorem dM_makesModel_58 : decode cM_makesModel 58 = .ok (.imul, 1) := by decide +kernel
theorem dM_makesModel_59 : decode cM_makesModel 59 = .ok (.iload_n 2, 1) := by decide +kernel
theorem dM_makesModel_60 : decode cM_makesModel 60 = .ok (.iadd, 1) := by decide +kernel
theorem dM_makesModel_61 : decode cM_makesModel 61 = .ok (.laload, 1) := by decide +kernel
theorem dM_makesModel_62 : decode cM_makesModel 62 = .ok (.lastore, 1) := by decide +kernel
theorem dM_makesModel_63 : decode cM_makesModel 63 = .ok (.lload_n 3, 1) := by decide +kernel
theorem dM_makesModel_64 : decode cM_makesModel 64 = .ok (.aload_n 0, 1) := by decide +kernel
theorem dM_makesModel_65 : decode cM_makesModel 65 = .ok (.getfield 33, 3) := by decide +kernel
theorem dM_makesModel_68 : decode cM_makesModel 68 = .ok (.iconst 4, 1) := by decide +kernel
theorem dM_makesModel_69 : decode cM_makesModel 69 = .ok (.iload_n 2, 1) := by decide +kernel
theorem dM_makesModel_70 : decode cM_makesModel 70 = .ok (.imul, 1) := by decide +kernel
theorem dM_makesModel_71 : decode cM_makesModel 71 = .ok (.iload 5, 2) := by decide +kernel
theorem dM_makesModel_73 : decode cM_makesModel 73 = .ok (.iadd, 1) := by decide +kernel
theorem dM_makesModel_74 : decode cM_makesModel 74 = .ok (.laload, 1) := by decide +kernel
theorem dM_makesModel_75 : decode cM_makesModel 75 = .ok (.aload_n 0, 1) := by decide +kernel
theorem dM_makesModel_76 : decode cM_makesModel 76 = .ok (.getfield 20, 3) := by decide +kernel
theorem dM_makesModel_79 : decode cM_makesModel 79 = .ok (.sipush 432, 3) := by decide +kernel
theorem dM_makesModel_82 : decode cM_makesModel 82 = .ok (.iload 5, 2) := by decide +kernel
theorem dM_makesModel_84 : decode cM_makesModel 84 = .ok (.iadd, 1) := by decide +kernel
theorem dM_makesModel_85 : decode cM_makesModel 85 = .ok (.iaload, 1) := by decide +kernel
theorem dM_makesModel_86 : decode cM_makesModel 86 = .ok (.i2l, 1) := by decide +kernel
theorem dM_makesModel_87 : decode cM_makesModel 87 = .ok (.invokestatic 84, 3) := by decide +kernel
theorem dM_makesModel_90 : decode cM_makesModel 90 = .ok (.ladd, 1) := by decide +kernel
theorem dM_makesModel_91 : decode cM_makesModel 91 = .ok (.lstore_n 3, 1) := by decide +kernel
theorem dM_makesModel_92 : decode cM_makesModel 92 = .ok (.iinc 5 1, 3) := by decide +kernel
theorem dM_makesModel_95 : decode cM_makesModel 95 = .ok (.goto (-60), 3) := by decide +kernel
theorem dM_makesModel_98 : decode cM_makesModel 98 = .ok (.aload_n 0, 1) := by decide +kernel
theorem dM_makesModel_99 : decode cM_makesModel 99 = .ok (.getfield 33, 3) := by decide +kernel
theorem dM_makesModel_102 : decode cM_makesModel 102 = .ok (.iconst 4, 1) := by decide +kernel
theorem dM_makesModel_103 : decode cM_makesModel 103 = .ok (.iload_n 2, 1) := by decide +kernel
theorem dM_makesModel_104 : decode cM_makesModel 104 = .ok (.imul, 1) := by decide +kernel
theorem dM_makesModel_105 : decode cM_makesModel 105 = .ok (.iconst 3, 1) := by decide +kernel
theorem dM_makesModel_106 : decode cM_makesModel 106 = .ok (.iadd, 1) := by decide +kernel
theorem dM_makesModel_107 : decode cM_makesModel 107 = .ok (.lload_n 3, 1) := by decide +kernel
theorem dM_makesModel_108 : decode cM_makesModel 108 = .ok (.lneg, 1) := by decide +kernel
theorem dM_makesModel_109 : decode cM_makesModel 109 = .ok (.invokestatic 88, 3) := by decide +kernel
theorem dM_makesModel_112 : decode cM_makesModel 112 = .ok (.lastore, 1) := by decide +kernel
theorem dM_makesModel_113 : decode cM_makesModel 113 = .ok (.iinc 2 1, 3) := by decide +kernel
theorem dM_makesModel_116 : decode cM_makesModel 116 = .ok (.goto (-91), 3) := by decide +kernel
theorem dM_makesModel_119 : decode cM_makesModel 119 = .ok (.aload_n 0, 1) := by decide +kernel
theorem dM_makesModel_120 : decode cM_makesModel 120 = .ok (.getfield 45, 3) := by decide +kernel
theorem dM_makesModel_123 : decode cM_makesModel 123 = .ok (.aload_n 0, 1) := by decide +kernel
theorem dM_makesModel_124 : decode cM_makesModel 124 = .ok (.getfield 36, 3) := by decide +kernel
theorem dM_makesModel_127 : decode cM_makesModel 127 = .ok (.invokestatic 104, 3) := by decide +kernel
theorem dM_makesModel_130 : decode cM_makesModel 130 = .ok (.aload_n 0, 1) := by decide +kernel
theorem dM_makesModel_131 : decode cM_makesModel 131 = .ok (.invokevirtual 101, 3) := by decide +kernel
theorem dM_makesModel_134 : decode cM_makesModel 134 = .ok (.return_, 1) := by decide +kernel
theorem dM_seen_0 : decode cM_seen 0 = .ok (.aload_n 0, 1) := by decide +kernel
theorem dM_seen_1 : decode cM_seen 1 = .ok (.iconst 0, 1) := by decide +kernel
theorem dM_seen_2 : decode cM_seen 2 = .ok (.putfield 48, 3) := by decide +kernel
theorem dM_seen_5 : decode cM_seen 5 = .ok (.iconst 0, 1) := by decide +kernel
theorem dM_seen_6 : decode cM_seen 6 = .ok (.istore_n 1, 1) := by decide +kernel
theorem dM_seen_7 : decode cM_seen 7 = .ok (.iconst 0, 1) := by decide +kernel
theorem dM_seen_8 : decode cM_seen 8 = .ok (.istore_n 2, 1) := by decide +kernel
theorem dM_seen_9 : decode cM_seen 9 = .ok (.iload_n 2, 1) := by decide +kernel
theorem dM_seen_10 : decode cM_seen 10 = .ok (.aload_n 0, 1) := by decide +kernel
theorem dM_seen_11 : decode cM_seen 11 = .ok (.getfield 52, 3) := by decide +kernel
theorem dM_seen_14 : decode cM_seen 14 = .ok (.if_icmp .ge 25, 3) := by decide +kernel
theorem dM_seen_17 : decode cM_seen 17 = .ok (.iload_n 1, 1) := by decide +kernel
theorem dM_seen_18 : decode cM_seen 18 = .ok (.aload_n 0, 1) := by decide +kernel
theorem dM_seen_19 : decode cM_seen 19 = .ok (.iload_n 2, 1) := by decide +kernel
theorem dM_seen_20 : decode cM_seen 20 = .ok (.invokevirtual 125, 3) := by decide +kernel
theorem dM_seen_23 : decode cM_seen 23 = .ok (.ifCond .eq 7, 3) := by decide +kernel
theorem dM_seen_26 : decode cM_seen 26 = .ok (.iconst 1, 1) := by decide +kernel
theorem dM_seen_27 : decode cM_seen 27 = .ok (.goto 4, 3) := by decide +kernel
theorem dM_seen_30 : decode cM_seen 30 = .ok (.iconst 0, 1) := by decide +kernel
theorem dM_seen_31 : decode cM_seen 31 = .ok (.iadd, 1) := by decide +kernel
theorem dM_seen_32 : decode cM_seen 32 = .ok (.istore_n 1, 1) := by decide +kernel
theorem dM_seen_33 : decode cM_seen 33 = .ok (.iinc 2 1, 3) := by decide +kernel
theorem dM_seen_36 : decode cM_seen 36 = .ok (.goto (-27), 3) := by decide +kernel
theorem dM_seen_39 : decode cM_seen 39 = .ok (.iload_n 1, 1) := by decide +kernel
theorem dM_seen_40 : decode cM_seen 40 = .ok (.ireturn, 1) := by decide +kernel
theorem dM_isSeen_0 : decode cM_isSeen 0 = .ok (.aload_n 0, 1) := by decide +kernel
theorem dM_isSeen_1 : decode cM_isSeen 1 = .ok (.getfield 13, 3) := by decide +kernel
theorem dM_isSeen_4 : decode cM_isSeen 4 = .ok (.iload_n 1, 1) := by decide +kernel
theorem dM_isSeen_5 : decode cM_isSeen 5 = .ok (.iaload, 1) := by decide +kernel
theorem dM_isSeen_6 : decode cM_isSeen 6 = .ok (.ifCond .le 7, 3) := by decide +kernel
theorem dM_isSeen_9 : decode cM_isSeen 9 = .ok (.iconst 1, 1) := by decide +kernel
theorem dM_isSeen_10 : decode cM_isSeen 10 = .ok (.goto 4, 3) := by decide +kernel
theorem dM_isSeen_13 : decode cM_isSeen 13 = .ok (.iconst 0, 1) := by decide +kernel
theorem dM_isSeen_14 : decode cM_isSeen 14 = .ok (.istore_n 2, 1) := by decide +kernel
theorem dM_isSeen_15 : decode cM_isSeen 15 = .ok (.iload_n 1, 1) := by decide +kernel
theorem dM_isSeen_16 : decode cM_isSeen 16 = .ok (.istore_n 3, 1) := by decide +kernel
theorem dM_isSeen_17 : decode cM_isSeen 17 = .ok (.iload_n 3, 1) := by decide +kernel
theorem dM_isSeen_18 : decode cM_isSeen 18 = .ok (.ifCond .lt 32, 3) := by decide +kernel
theorem dM_isSeen_21 : decode cM_isSeen 21 = .ok (.iload_n 2, 1) := by decide +kernel
theorem dM_isSeen_22 : decode cM_isSeen 22 = .ok (.ifCond .eq 16, 3) := by decide +kernel
theorem dM_isSeen_25 : decode cM_isSeen 25 = .ok (.aload_n 0, 1) := by decide +kernel
theorem dM_isSeen_26 : decode cM_isSeen 26 = .ok (.getfield 16, 3) := by decide +kernel
theorem dM_isSeen_29 : decode cM_isSeen 29 = .ok (.iload_n 3, 1) := by decide +kernel
theorem dM_isSeen_30 : decode cM_isSeen 30 = .ok (.baload, 1) := by decide +kernel
theorem dM_isSeen_31 : decode cM_isSeen 31 = .ok (.ifCond .ne 7, 3) := by decide +kernel
theorem dM_isSeen_34 : decode cM_isSeen 34 = .ok (.iconst 1, 1) := by decide +kernel
theorem dM_isSeen_35 : decode cM_isSeen 35 = .ok (.goto 4, 3) := by decide +kernel
theorem dM_isSeen_38 : decode cM_isSeen 38 = .ok (.iconst 0, 1) := by decide +kernel
theorem dM_isSeen_39 : decode cM_isSeen 39 = .ok (.istore_n 2, 1) := by decide +kernel
theorem dM_isSeen_40 : decode cM_isSeen 40 = .ok (.aload_n 0, 1) := by decide +kernel
theorem dM_isSeen_41 : decode cM_isSeen 41 = .ok (.getfield 7, 3) := by decide +kernel
theorem dM_isSeen_44 : decode cM_isSeen 44 = .ok (.iload_n 3, 1) := by decide +kernel
theorem dM_isSeen_45 : decode cM_isSeen 45 = .ok (.iaload, 1) := by decide +kernel
theorem dM_isSeen_46 : decode cM_isSeen 46 = .ok (.istore_n 3, 1) := by decide +kernel
theorem dM_isSeen_47 : decode cM_isSeen 47 = .ok (.goto (-30), 3) := by decide +kernel
theorem dM_isSeen_50 : decode cM_isSeen 50 = .ok (.iload_n 2, 1) := by decide +kernel
theorem dM_isSeen_51 : decode cM_isSeen 51 = .ok (.ireturn, 1) := by decide +kernel
theorem dM_inOrder_0 : decode cM_inOrder 0 = .ok (.aload_n 0, 1) := by decide +kernel
theorem dM_inOrder_1 : decode cM_inOrder 1 = .ok (.iconst 0, 1) := by decide +kernel
theorem dM_inOrder_2 : decode cM_inOrder 2 = .ok (.putfield 48, 3) := by decide +kernel
theorem dM_inOrder_5 : decode cM_inOrder 5 = .ok (.iconst 0, 1) := by decide +kernel
theorem dM_inOrder_6 : decode cM_inOrder 6 = .ok (.istore_n 2, 1) := by decide +kernel
theorem dM_inOrder_7 : decode cM_inOrder 7 = .ok (.iload_n 2, 1) := by decide +kernel
theorem dM_inOrder_8 : decode cM_inOrder 8 = .ok (.aload_n 0, 1) := by decide +kernel
theorem dM_inOrder_9 : decode cM_inOrder 9 = .ok (.getfield 52, 3) := by decide +kernel
theorem dM_inOrder_12 : decode cM_inOrder 12 = .ok (.if_icmp .ge 27, 3) := by decide +kernel
theorem dM_inOrder_15 : decode cM_inOrder 15 = .ok (.aload_n 0, 1) := by decide +kernel
theorem dM_inOrder_16 : decode cM_inOrder 16 = .ok (.iload_n 2, 1) := by decide +kernel
theorem dM_inOrder_17 : decode cM_inOrder 17 = .ok (.invokevirtual 122, 3) := by decide +kernel
theorem dM_inOrder_20 : decode cM_inOrder 20 = .ok (.aload_n 0, 1) := by decide +kernel
theorem dM_inOrder_21 : decode cM_inOrder 21 = .ok (.getfield 26, 3) := by decide +kernel
theorem dM_inOrder_24 : decode cM_inOrder 24 = .ok (.iload_n 2, 1) := by decide +kernel
theorem dM_inOrder_25 : decode cM_inOrder 25 = .ok (.aload_n 0, 1) := by decide +kernel
theorem dM_inOrder_26 : decode cM_inOrder 26 = .ok (.getfield 30, 3) := by decide +kernel
theorem dM_inOrder_29 : decode cM_inOrder 29 = .ok (.bipush 11, 2) := by decide +kernel
theorem dM_inOrder_31 : decode cM_inOrder 31 = .ok (.laload, 1) := by decide +kernel
theorem dM_inOrder_32 : decode cM_inOrder 32 = .ok (.lastore, 1) := by decide +kernel
theorem dM_inOrder_33 : decode cM_inOrder 33 = .ok (.iinc 2 1, 3) := by decide +kernel
theorem dM_inOrder_36 : decode cM_inOrder 36 = .ok (.goto (-29), 3) := by decide +kernel
theorem dM_inOrder_39 : decode cM_inOrder 39 = .ok (.iconst (-1), 1) := by decide +kernel
theorem dM_inOrder_40 : decode cM_inOrder 40 = .ok (.istore_n 2, 1) := by decide +kernel
theorem dM_inOrder_41 : decode cM_inOrder 41 = .ok (.iconst 0, 1) := by decide +kernel
theorem dM_inOrder_42 : decode cM_inOrder 42 = .ok (.istore_n 3, 1) := by decide +kernel
theorem dM_inOrder_43 : decode cM_inOrder 43 = .ok (.iload_n 3, 1) := by decide +kernel
theorem dM_inOrder_44 : decode cM_inOrder 44 = .ok (.aload_n 0, 1) := by decide +kernel
theorem dM_inOrder_45 : decode cM_inOrder 45 = .ok (.getfield 52, 3) := by decide +kernel
theorem dM_inOrder_48 : decode cM_inOrder 48 = .ok (.if_icmp .ge 79, 3) := by decide +kernel
theorem dM_inOrder_51 : decode cM_inOrder 51 = .ok (.iconst 0, 1) := by decide +kernel
theorem dM_inOrder_52 : decode cM_inOrder 52 = .ok (.istore 4, 2) := by decide +kernel
theorem dM_inOrder_54 : decode cM_inOrder 54 = .ok (.iconst 0, 1) := by decide +kernel
end
section
theorem dM_inOrder_55 : decode cM_inOrder 55 = .ok (.istore 5, 2) := by decide +kernel
theorem dM_inOrder_57 : decode cM_inOrder 57 = .ok (.iload 5, 2) := by decide +kernel
theorem dM_inOrder_59 : decode cM_inOrder 59 = .ok (.aload_n 0, 1) := by decide +kernel
theorem dM_inOrder_60 : decode cM_inOrder 60 = .ok (.getfield 52, 3) := by decide +kernel
theorem dM_inOrder_63 : decode cM_inOrder 63 = .ok (.if_icmp .ge 38, 3) := by decide +kernel
theorem dM_inOrder_66 : decode cM_inOrder 66 = .ok (.iload 4, 2) := by decide +kernel
theorem dM_inOrder_68 : decode cM_inOrder 68 = .ok (.aload_n 0, 1) := by decide +kernel
theorem dM_inOrder_69 : decode cM_inOrder 69 = .ok (.iload 5, 2) := by decide +kernel
theorem dM_inOrder_71 : decode cM_inOrder 71 = .ok (.invokevirtual 125, 3) := by decide +kernel
theorem dM_inOrder_74 : decode cM_inOrder 74 = .ok (.ifCond .eq 17, 3) := by decide +kernel
theorem dM_inOrder_77 : decode cM_inOrder 77 = .ok (.aload_n 0, 1) := by decide +kernel
theorem dM_inOrder_78 : decode cM_inOrder 78 = .ok (.iload 5, 2) := by decide +kernel
theorem dM_inOrder_80 : decode cM_inOrder 80 = .ok (.iload_n 3, 1) := by decide +kernel
theorem dM_inOrder_81 : decode cM_inOrder 81 = .ok (.invokevirtual 128, 3) := by decide +kernel
theorem dM_inOrder_84 : decode cM_inOrder 84 = .ok (.ifCond .eq 7, 3) := by decide +kernel
theorem dM_inOrder_87 : decode cM_inOrder 87 = .ok (.iconst 1, 1) := by decide +kernel
theorem dM_inOrder_88 : decode cM_inOrder 88 = .ok (.goto 4, 3) := by decide +kernel
theorem dM_inOrder_91 : decode cM_inOrder 91 = .ok (.iconst 0, 1) := by decide +kernel
theorem dM_inOrder_92 : decode cM_inOrder 92 = .ok (.iadd, 1) := by decide +kernel
theorem dM_inOrder_93 : decode cM_inOrder 93 = .ok (.istore 4, 2) := by decide +kernel
theorem dM_inOrder_95 : decode cM_inOrder 95 = .ok (.iinc 5 1, 3) := by decide +kernel
theorem dM_inOrder_98 : decode cM_inOrder 98 = .ok (.goto (-41), 3) := by decide +kernel
theorem dM_inOrder_101 : decode cM_inOrder 101 = .ok (.aload_n 0, 1) := by decide +kernel
theorem dM_inOrder_102 : decode cM_inOrder 102 = .ok (.iload_n 3, 1) := by decide +kernel
theorem dM_inOrder_103 : decode cM_inOrder 103 = .ok (.invokevirtual 125, 3) := by decide +kernel
theorem dM_inOrder_106 : decode cM_inOrder 106 = .ok (.ifCond .eq 13, 3) := by decide +kernel
theorem dM_inOrder_109 : decode cM_inOrder 109 = .ok (.iload 4, 2) := by decide +kernel
theorem dM_inOrder_111 : decode cM_inOrder 111 = .ok (.iload_n 1, 1) := by decide +kernel
theorem dM_inOrder_112 : decode cM_inOrder 112 = .ok (.if_icmp .ne 7, 3) := by decide +kernel
theorem dM_inOrder_115 : decode cM_inOrder 115 = .ok (.iload_n 3, 1) := by decide +kernel
theorem dM_inOrder_116 : decode cM_inOrder 116 = .ok (.goto 4, 3) := by decide +kernel
theorem dM_inOrder_119 : decode cM_inOrder 119 = .ok (.iload_n 2, 1) := by decide +kernel
theorem dM_inOrder_120 : decode cM_inOrder 120 = .ok (.istore_n 2, 1) := by decide +kernel
theorem dM_inOrder_121 : decode cM_inOrder 121 = .ok (.iinc 3 1, 3) := by decide +kernel
theorem dM_inOrder_124 : decode cM_inOrder 124 = .ok (.goto (-81), 3) := by decide +kernel
theorem dM_inOrder_127 : decode cM_inOrder 127 = .ok (.iload_n 2, 1) := by decide +kernel
theorem dM_inOrder_128 : decode cM_inOrder 128 = .ok (.ireturn, 1) := by decide +kernel
theorem dM_isBefore_0 : decode cM_isBefore 0 = .ok (.aload_n 0, 1) := by decide +kernel
theorem dM_isBefore_1 : decode cM_isBefore 1 = .ok (.getfield 13, 3) := by decide +kernel
theorem dM_isBefore_4 : decode cM_isBefore 4 = .ok (.iload_n 1, 1) := by decide +kernel
theorem dM_isBefore_5 : decode cM_isBefore 5 = .ok (.iaload, 1) := by decide +kernel
theorem dM_isBefore_6 : decode cM_isBefore 6 = .ok (.aload_n 0, 1) := by decide +kernel
theorem dM_isBefore_7 : decode cM_isBefore 7 = .ok (.getfield 13, 3) := by decide +kernel
theorem dM_isBefore_10 : decode cM_isBefore 10 = .ok (.iload_n 2, 1) := by decide +kernel
theorem dM_isBefore_11 : decode cM_isBefore 11 = .ok (.iaload, 1) := by decide +kernel
theorem dM_isBefore_12 : decode cM_isBefore 12 = .ok (.if_icmp .eq 24, 3) := by decide +kernel
theorem dM_isBefore_15 : decode cM_isBefore 15 = .ok (.aload_n 0, 1) := by decide +kernel
theorem dM_isBefore_16 : decode cM_isBefore 16 = .ok (.getfield 13, 3) := by decide +kernel
theorem dM_isBefore_19 : decode cM_isBefore 19 = .ok (.iload_n 1, 1) := by decide +kernel
theorem dM_isBefore_20 : decode cM_isBefore 20 = .ok (.iaload, 1) := by decide +kernel
theorem dM_isBefore_21 : decode cM_isBefore 21 = .ok (.aload_n 0, 1) := by decide +kernel
theorem dM_isBefore_22 : decode cM_isBefore 22 = .ok (.getfield 13, 3) := by decide +kernel
theorem dM_isBefore_25 : decode cM_isBefore 25 = .ok (.iload_n 2, 1) := by decide +kernel
theorem dM_isBefore_26 : decode cM_isBefore 26 = .ok (.iaload, 1) := by decide +kernel
theorem dM_isBefore_27 : decode cM_isBefore 27 = .ok (.if_icmp .ge 7, 3) := by decide +kernel
theorem dM_isBefore_30 : decode cM_isBefore 30 = .ok (.iconst 1, 1) := by decide +kernel
theorem dM_isBefore_31 : decode cM_isBefore 31 = .ok (.goto 4, 3) := by decide +kernel
theorem dM_isBefore_34 : decode cM_isBefore 34 = .ok (.iconst 0, 1) := by decide +kernel
theorem dM_isBefore_35 : decode cM_isBefore 35 = .ok (.ireturn, 1) := by decide +kernel
theorem dM_isBefore_36 : decode cM_isBefore 36 = .ok (.aload_n 0, 1) := by decide +kernel
theorem dM_isBefore_37 : decode cM_isBefore 37 = .ok (.getfield 26, 3) := by decide +kernel
theorem dM_isBefore_40 : decode cM_isBefore 40 = .ok (.iload_n 1, 1) := by decide +kernel
theorem dM_isBefore_41 : decode cM_isBefore 41 = .ok (.laload, 1) := by decide +kernel
theorem dM_isBefore_42 : decode cM_isBefore 42 = .ok (.aload_n 0, 1) := by decide +kernel
theorem dM_isBefore_43 : decode cM_isBefore 43 = .ok (.getfield 26, 3) := by decide +kernel
theorem dM_isBefore_46 : decode cM_isBefore 46 = .ok (.iload_n 2, 1) := by decide +kernel
theorem dM_isBefore_47 : decode cM_isBefore 47 = .ok (.laload, 1) := by decide +kernel
theorem dM_isBefore_48 : decode cM_isBefore 48 = .ok (.lcmp, 1) := by decide +kernel
theorem dM_isBefore_49 : decode cM_isBefore 49 = .ok (.ifCond .eq 59, 3) := by decide +kernel
theorem dM_isBefore_52 : decode cM_isBefore 52 = .ok (.aload_n 0, 1) := by decide +kernel
theorem dM_isBefore_53 : decode cM_isBefore 53 = .ok (.getfield 13, 3) := by decide +kernel
theorem dM_isBefore_56 : decode cM_isBefore 56 = .ok (.iload_n 1, 1) := by decide +kernel
theorem dM_isBefore_57 : decode cM_isBefore 57 = .ok (.iaload, 1) := by decide +kernel
theorem dM_isBefore_58 : decode cM_isBefore 58 = .ok (.iconst 1, 1) := by decide +kernel
theorem dM_isBefore_59 : decode cM_isBefore 59 = .ok (.if_icmp .ne 27, 3) := by decide +kernel
theorem dM_isBefore_62 : decode cM_isBefore 62 = .ok (.aload_n 0, 1) := by decide +kernel
theorem dM_isBefore_63 : decode cM_isBefore 63 = .ok (.getfield 26, 3) := by decide +kernel
theorem dM_isBefore_66 : decode cM_isBefore 66 = .ok (.iload_n 1, 1) := by decide +kernel
theorem dM_isBefore_67 : decode cM_isBefore 67 = .ok (.laload, 1) := by decide +kernel
theorem dM_isBefore_68 : decode cM_isBefore 68 = .ok (.aload_n 0, 1) := by decide +kernel
theorem dM_isBefore_69 : decode cM_isBefore 69 = .ok (.getfield 26, 3) := by decide +kernel
theorem dM_isBefore_72 : decode cM_isBefore 72 = .ok (.iload_n 2, 1) := by decide +kernel
theorem dM_isBefore_73 : decode cM_isBefore 73 = .ok (.laload, 1) := by decide +kernel
theorem dM_isBefore_74 : decode cM_isBefore 74 = .ok (.lcmp, 1) := by decide +kernel
theorem dM_isBefore_75 : decode cM_isBefore 75 = .ok (.ifCond .ge 7, 3) := by decide +kernel
theorem dM_isBefore_78 : decode cM_isBefore 78 = .ok (.iconst 1, 1) := by decide +kernel
theorem dM_isBefore_79 : decode cM_isBefore 79 = .ok (.goto 28, 3) := by decide +kernel
theorem dM_isBefore_82 : decode cM_isBefore 82 = .ok (.iconst 0, 1) := by decide +kernel
theorem dM_isBefore_83 : decode cM_isBefore 83 = .ok (.goto 24, 3) := by decide +kernel
theorem dM_isBefore_86 : decode cM_isBefore 86 = .ok (.aload_n 0, 1) := by decide +kernel
theorem dM_isBefore_87 : decode cM_isBefore 87 = .ok (.getfield 26, 3) := by decide +kernel
theorem dM_isBefore_90 : decode cM_isBefore 90 = .ok (.iload_n 1, 1) := by decide +kernel
theorem dM_isBefore_91 : decode cM_isBefore 91 = .ok (.laload, 1) := by decide +kernel
theorem dM_isBefore_92 : decode cM_isBefore 92 = .ok (.aload_n 0, 1) := by decide +kernel
theorem dM_isBefore_93 : decode cM_isBefore 93 = .ok (.getfield 26, 3) := by decide +kernel
theorem dM_isBefore_96 : decode cM_isBefore 96 = .ok (.iload_n 2, 1) := by decide +kernel
theorem dM_isBefore_97 : decode cM_isBefore 97 = .ok (.laload, 1) := by decide +kernel
theorem dM_isBefore_98 : decode cM_isBefore 98 = .ok (.lcmp, 1) := by decide +kernel
theorem dM_isBefore_99 : decode cM_isBefore 99 = .ok (.ifCond .le 7, 3) := by decide +kernel
theorem dM_isBefore_102 : decode cM_isBefore 102 = .ok (.iconst 1, 1) := by decide +kernel
theorem dM_isBefore_103 : decode cM_isBefore 103 = .ok (.goto 4, 3) := by decide +kernel
theorem dM_isBefore_106 : decode cM_isBefore 106 = .ok (.iconst 0, 1) := by decide +kernel
theorem dM_isBefore_107 : decode cM_isBefore 107 = .ok (.ireturn, 1) := by decide +kernel
theorem dM_isBefore_108 : decode cM_isBefore 108 = .ok (.iload_n 1, 1) := by decide +kernel
theorem dM_isBefore_109 : decode cM_isBefore 109 = .ok (.iload_n 2, 1) := by decide +kernel
theorem dM_isBefore_110 : decode cM_isBefore 110 = .ok (.if_icmp .ge 7, 3) := by decide +kernel
theorem dM_isBefore_113 : decode cM_isBefore 113 = .ok (.iconst 1, 1) := by decide +kernel
theorem dM_isBefore_114 : decode cM_isBefore 114 = .ok (.goto 4, 3) := by decide +kernel
theorem dM_isBefore_117 : decode cM_isBefore 117 = .ok (.iconst 0, 1) := by decide +kernel
theorem dM_isBefore_118 : decode cM_isBefore 118 = .ok (.ireturn, 1) := by decide +kernel
theorem dM_about_0 : decode cM_about 0 = .ok (.aload_n 0, 1) := by decide +kernel
theorem dM_about_1 : decode cM_about 1 = .ok (.aload_n 0, 1) := by decide +kernel
theorem dM_about_2 : decode cM_about 2 = .ok (.iload_n 1, 1) := by decide +kernel
theorem dM_about_3 : decode cM_about 3 = .ok (.invokevirtual 62, 3) := by decide +kernel
theorem dM_about_6 : decode cM_about 6 = .ok (.ifCond .eq 17, 3) := by decide +kernel
theorem dM_about_9 : decode cM_about 9 = .ok (.iload_n 2, 1) := by decide +kernel
theorem dM_about_10 : decode cM_about 10 = .ok (.ifCond .lt 13, 3) := by decide +kernel
theorem dM_about_13 : decode cM_about 13 = .ok (.iload_n 2, 1) := by decide +kernel
theorem dM_about_14 : decode cM_about 14 = .ok (.bipush 12, 2) := by decide +kernel
theorem dM_about_16 : decode cM_about 16 = .ok (.if_icmp .ge 7, 3) := by decide +kernel
theorem dM_about_19 : decode cM_about 19 = .ok (.iconst 0, 1) := by decide +kernel
theorem dM_about_20 : decode cM_about 20 = .ok (.goto 4, 3) := by decide +kernel
theorem dM_about_23 : decode cM_about 23 = .ok (.iconst 1, 1) := by decide +kernel
theorem dM_about_24 : decode cM_about 24 = .ok (.putfield 48, 3) := by decide +kernel
theorem dM_about_27 : decode cM_about 27 = .ok (.aload_n 0, 1) := by decide +kernel
theorem dM_about_28 : decode cM_about 28 = .ok (.getfield 48, 3) := by decide +kernel
theorem dM_about_31 : decode cM_about 31 = .ok (.iconst 1, 1) := by decide +kernel
theorem dM_about_32 : decode cM_about 32 = .ok (.if_icmp .ne 5, 3) := by decide +kernel
theorem dM_about_35 : decode cM_about 35 = .ok (.iconst 0, 1) := by decide +kernel
theorem dM_about_36 : decode cM_about 36 = .ok (.ireturn, 1) := by decide +kernel
theorem dM_about_37 : decode cM_about 37 = .ok (.iload_n 2, 1) := by decide +kernel
theorem dM_about_38 : decode cM_about 38 = .ok (.ifCond .ne 12, 3) := by decide +kernel
theorem dM_about_41 : decode cM_about 41 = .ok (.aload_n 0, 1) := by decide +kernel
theorem dM_about_42 : decode cM_about 42 = .ok (.getfield 7, 3) := by decide +kernel
theorem dM_about_45 : decode cM_about 45 = .ok (.iload_n 1, 1) := by decide +kernel
theorem dM_about_46 : decode cM_about 46 = .ok (.iaload, 1) := by decide +kernel
theorem dM_about_47 : decode cM_about 47 = .ok (.goto 52, 3) := by decide +kernel
theorem dM_about_50 : decode cM_about 50 = .ok (.iload_n 2, 1) := by decide +kernel
theorem dM_about_51 : decode cM_about 51 = .ok (.iconst 1, 1) := by decide +kernel
theorem dM_about_52 : decode cM_about 52 = .ok (.if_icmp .ne 12, 3) := by decide +kernel
theorem dM_about_55 : decode cM_about 55 = .ok (.aload_n 0, 1) := by decide +kernel
theorem dM_about_56 : decode cM_about 56 = .ok (.getfield 13, 3) := by decide +kernel
theorem dM_about_59 : decode cM_about 59 = .ok (.iload_n 1, 1) := by decide +kernel
theorem dM_about_60 : decode cM_about 60 = .ok (.iaload, 1) := by decide +kernel
theorem dM_about_61 : decode cM_about 61 = .ok (.goto 38, 3) := by decide +kernel
theorem dM_about_64 : decode cM_about 64 = .ok (.iload_n 2, 1) := by decide +kernel
theorem dM_about_65 : decode cM_about 65 = .ok (.iconst 2, 1) := by decide +kernel
theorem dM_about_66 : decode cM_about 66 = .ok (.if_icmp .ne 20, 3) := by decide +kernel
theorem dM_about_69 : decode cM_about 69 = .ok (.aload_n 0, 1) := by decide +kernel
theorem dM_about_70 : decode cM_about 70 = .ok (.getfield 16, 3) := by decide +kernel
theorem dM_about_73 : decode cM_about 73 = .ok (.iload_n 1, 1) := by decide +kernel
theorem dM_about_74 : decode cM_about 74 = .ok (.baload, 1) := by decide +kernel
theorem dM_about_75 : decode cM_about 75 = .ok (.ifCond .eq 7, 3) := by decide +kernel
theorem dM_about_78 : decode cM_about 78 = .ok (.iconst 1, 1) := by decide +kernel
theorem dM_about_79 : decode cM_about 79 = .ok (.goto 20, 3) := by decide +kernel
theorem dM_about_82 : decode cM_about 82 = .ok (.iconst 0, 1) := by decide +kernel
theorem dM_about_83 : decode cM_about 83 = .ok (.goto 16, 3) := by decide +kernel
theorem dM_about_86 : decode cM_about 86 = .ok (.aload_n 0, 1) := by decide +kernel
theorem dM_about_87 : decode cM_about 87 = .ok (.getfield 20, 3) := by decide +kernel
theorem dM_about_90 : decode cM_about 90 = .ok (.bipush 9, 2) := by decide +kernel
theorem dM_about_92 : decode cM_about 92 = .ok (.iload_n 1, 1) := by decide +kernel
theorem dM_about_93 : decode cM_about 93 = .ok (.imul, 1) := by decide +kernel
theorem dM_about_94 : decode cM_about 94 = .ok (.iload_n 2, 1) := by decide +kernel
theorem dM_about_95 : decode cM_about 95 = .ok (.iadd, 1) := by decide +kernel
theorem dM_about_96 : decode cM_about 96 = .ok (.iconst 3, 1) := by decide +kernel
theorem dM_about_97 : decode cM_about 97 = .ok (.isub, 1) := by decide +kernel
theorem dM_about_98 : decode cM_about 98 = .ok (.iaload, 1) := by decide +kernel
theorem dM_about_99 : decode cM_about 99 = .ok (.ireturn, 1) := by decide +kernel
theorem dM_count_0 : decode cM_count 0 = .ok (.aload_n 0, 1) := by decide +kernel
theorem dM_count_1 : decode cM_count 1 = .ok (.iconst 0, 1) := by decide +kernel
theorem dM_count_2 : decode cM_count 2 = .ok (.putfield 48, 3) := by decide +kernel
theorem dM_count_5 : decode cM_count 5 = .ok (.aload_n 0, 1) := by decide +kernel
theorem dM_count_6 : decode cM_count 6 = .ok (.getfield 52, 3) := by decide +kernel
theorem dM_count_9 : decode cM_count 9 = .ok (.ireturn, 1) := by decide +kernel
theorem dL_law_0 : decode cL_law 0 = .ok (.new 8, 3) := by decide +kernel
theorem dL_law_3 : decode cL_law 3 = .ok (.dup, 1) := by decide +kernel
theorem dL_law_4 : decode cL_law 4 = .ok (.invokespecial 22, 3) := by decide +kernel
theorem dL_law_7 : decode cL_law 7 = .ok (.astore_n 1, 1) := by decide +kernel
theorem dL_law_8 : decode cL_law 8 = .ok (.new 23, 3) := by decide +kernel
theorem dL_law_11 : decode cL_law 11 = .ok (.dup, 1) := by decide +kernel
theorem dL_law_12 : decode cL_law 12 = .ok (.invokespecial 25, 3) := by decide +kernel
theorem dL_law_15 : decode cL_law 15 = .ok (.astore_n 2, 1) := by decide +kernel
theorem dL_law_16 : decode cL_law 16 = .ok (.iconst 1, 1) := by decide +kernel
theorem dL_law_17 : decode cL_law 17 = .ok (.newarray .long, 2) := by decide +kernel
theorem dL_law_19 : decode cL_law 19 = .ok (.astore_n 3, 1) := by decide +kernel
theorem dL_law_20 : decode cL_law 20 = .ok (.iconst 0, 1) := by decide +kernel
theorem dL_law_21 : decode cL_law 21 = .ok (.istore 4, 2) := by decide +kernel
theorem dL_law_23 : decode cL_law 23 = .ok (.iload 4, 2) := by decide +kernel
theorem dL_law_25 : decode cL_law 25 = .ok (.aload_n 0, 1) := by decide +kernel
theorem dL_law_26 : decode cL_law 26 = .ok (.arraylength, 1) := by decide +kernel
theorem dL_law_27 : decode cL_law 27 = .ok (.bipush 6, 2) := by decide +kernel
theorem dL_law_29 : decode cL_law 29 = .ok (.isub, 1) := by decide +kernel
theorem dL_law_30 : decode cL_law 30 = .ok (.if_icmp .gt 631, 3) := by decide +kernel
theorem dL_law_33 : decode cL_law 33 = .ok (.aload_n 0, 1) := by decide +kernel
theorem dL_law_34 : decode cL_law 34 = .ok (.iload 4, 2) := by decide +kernel
theorem dL_law_36 : decode cL_law 36 = .ok (.iaload, 1) := by decide +kernel
theorem dL_law_37 : decode cL_law 37 = .ok (.bipush 15, 2) := by decide +kernel
theorem dL_law_39 : decode cL_law 39 = .ok (.iand, 1) := by decide +kernel
theorem dL_law_40 : decode cL_law 40 = .ok (.tableswitch 615 0 11 #[64, 101, 112, 185, 222, 275, 336, 416, 496, 509, 534, 602], 64) := by decide +kernel
theorem dL_law_104 : decode cL_law 104 = .ok (.aload_n 1, 1) := by decide +kernel
theorem dL_law_105 : decode cL_law 105 = .ok (.aload_n 0, 1) := by decide +kernel
theorem dL_law_106 : decode cL_law 106 = .ok (.iload 4, 2) := by decide +kernel
theorem dL_law_108 : decode cL_law 108 = .ok (.iconst 1, 1) := by decide +kernel
theorem dL_law_109 : decode cL_law 109 = .ok (.iadd, 1) := by decide +kernel
theorem dL_law_110 : decode cL_law 110 = .ok (.iaload, 1) := by decide +kernel
theorem dL_law_111 : decode cL_law 111 = .ok (.aload_n 0, 1) := by decide +kernel
theorem dL_law_112 : decode cL_law 112 = .ok (.iload 4, 2) := by decide +kernel
theorem dL_law_114 : decode cL_law 114 = .ok (.iconst 2, 1) := by decide +kernel
theorem dL_law_115 : decode cL_law 115 = .ok (.iadd, 1) := by decide +kernel
theorem dL_law_116 : decode cL_law 116 = .ok (.iaload, 1) := by decide +kernel
theorem dL_law_117 : decode cL_law 117 = .ok (.invokevirtual 26, 3) := by decide +kernel
theorem dL_law_120 : decode cL_law 120 = .ok (.aload_n 2, 1) := by decide +kernel
theorem dL_law_121 : decode cL_law 121 = .ok (.aload_n 0, 1) := by decide +kernel
theorem dL_law_122 : decode cL_law 122 = .ok (.iload 4, 2) := by decide +kernel
theorem dL_law_124 : decode cL_law 124 = .ok (.iconst 1, 1) := by decide +kernel
theorem dL_law_125 : decode cL_law 125 = .ok (.iadd, 1) := by decide +kernel
theorem dL_law_126 : decode cL_law 126 = .ok (.iaload, 1) := by decide +kernel
theorem dL_law_127 : decode cL_law 127 = .ok (.aload_n 0, 1) := by decide +kernel
theorem dL_law_128 : decode cL_law 128 = .ok (.iload 4, 2) := by decide +kernel
theorem dL_law_130 : decode cL_law 130 = .ok (.iconst 2, 1) := by decide +kernel
theorem dL_law_131 : decode cL_law 131 = .ok (.iadd, 1) := by decide +kernel
theorem dL_law_132 : decode cL_law 132 = .ok (.iaload, 1) := by decide +kernel
theorem dL_law_133 : decode cL_law 133 = .ok (.invokevirtual 29, 3) := by decide +kernel
theorem dL_law_136 : decode cL_law 136 = .ok (.if_icmp .eq 519, 3) := by decide +kernel
theorem dL_law_139 : decode cL_law 139 = .ok (.iconst 0, 1) := by decide +kernel
theorem dL_law_140 : decode cL_law 140 = .ok (.ireturn, 1) := by decide +kernel
theorem dL_law_141 : decode cL_law 141 = .ok (.aload_n 1, 1) := by decide +kernel
theorem dL_law_142 : decode cL_law 142 = .ok (.invokevirtual 30, 3) := by decide +kernel
theorem dL_law_145 : decode cL_law 145 = .ok (.aload_n 2, 1) := by decide +kernel
theorem dL_law_146 : decode cL_law 146 = .ok (.invokevirtual 33, 3) := by decide +kernel
theorem dL_law_149 : decode cL_law 149 = .ok (.goto 506, 3) := by decide +kernel
theorem dL_law_152 : decode cL_law 152 = .ok (.aload_n 1, 1) := by decide +kernel
theorem dL_law_153 : decode cL_law 153 = .ok (.aload_n 0, 1) := by decide +kernel
theorem dL_law_154 : decode cL_law 154 = .ok (.iload 4, 2) := by decide +kernel
theorem dL_law_156 : decode cL_law 156 = .ok (.iconst 1, 1) := by decide +kernel
theorem dL_law_157 : decode cL_law 157 = .ok (.iadd, 1) := by decide +kernel
theorem dL_law_158 : decode cL_law 158 = .ok (.iaload, 1) := by decide +kernel
theorem dL_law_159 : decode cL_law 159 = .ok (.aload_n 0, 1) := by decide +kernel
theorem dL_law_160 : decode cL_law 160 = .ok (.iload 4, 2) := by decide +kernel
theorem dL_law_162 : decode cL_law 162 = .ok (.iconst 2, 1) := by decide +kernel
theorem dL_law_163 : decode cL_law 163 = .ok (.iadd, 1) := by decide +kernel
theorem dL_law_164 : decode cL_law 164 = .ok (.iaload, 1) := by decide +kernel
theorem dL_law_165 : decode cL_law 165 = .ok (.aload_n 0, 1) := by decide +kernel
theorem dL_law_166 : decode cL_law 166 = .ok (.iload 4, 2) := by decide +kernel
theorem dL_law_168 : decode cL_law 168 = .ok (.iconst 3, 1) := by decide +kernel
theorem dL_law_169 : decode cL_law 169 = .ok (.iadd, 1) := by decide +kernel
theorem dL_law_170 : decode cL_law 170 = .ok (.iaload, 1) := by decide +kernel
theorem dL_law_171 : decode cL_law 171 = .ok (.aload_n 0, 1) := by decide +kernel
theorem dL_law_172 : decode cL_law 172 = .ok (.iload 4, 2) := by decide +kernel
theorem dL_law_174 : decode cL_law 174 = .ok (.iconst 4, 1) := by decide +kernel
theorem dL_law_175 : decode cL_law 175 = .ok (.iadd, 1) := by decide +kernel
theorem dL_law_176 : decode cL_law 176 = .ok (.iaload, 1) := by decide +kernel
theorem dL_law_177 : decode cL_law 177 = .ok (.aload_n 0, 1) := by decide +kernel
theorem dL_law_178 : decode cL_law 178 = .ok (.iload 4, 2) := by decide +kernel
theorem dL_law_180 : decode cL_law 180 = .ok (.iconst 5, 1) := by decide +kernel
theorem dL_law_181 : decode cL_law 181 = .ok (.iadd, 1) := by decide +kernel
theorem dL_law_182 : decode cL_law 182 = .ok (.iaload, 1) := by decide +kernel
theorem dL_law_183 : decode cL_law 183 = .ok (.invokevirtual 34, 3) := by decide +kernel
theorem dL_law_186 : decode cL_law 186 = .ok (.aload_n 2, 1) := by decide +kernel
theorem dL_law_187 : decode cL_law 187 = .ok (.aload_n 0, 1) := by decide +kernel
theorem dL_law_188 : decode cL_law 188 = .ok (.iload 4, 2) := by decide +kernel
theorem dL_law_190 : decode cL_law 190 = .ok (.iconst 1, 1) := by decide +kernel
theorem dL_law_191 : decode cL_law 191 = .ok (.iadd, 1) := by decide +kernel
theorem dL_law_192 : decode cL_law 192 = .ok (.iaload, 1) := by decide +kernel
theorem dL_law_193 : decode cL_law 193 = .ok (.aload_n 0, 1) := by decide +kernel
theorem dL_law_194 : decode cL_law 194 = .ok (.iload 4, 2) := by decide +kernel
theorem dL_law_196 : decode cL_law 196 = .ok (.iconst 2, 1) := by decide +kernel
theorem dL_law_197 : decode cL_law 197 = .ok (.iadd, 1) := by decide +kernel
theorem dL_law_198 : decode cL_law 198 = .ok (.iaload, 1) := by decide +kernel
theorem dL_law_199 : decode cL_law 199 = .ok (.aload_n 0, 1) := by decide +kernel
theorem dL_law_200 : decode cL_law 200 = .ok (.iload 4, 2) := by decide +kernel
theorem dL_law_202 : decode cL_law 202 = .ok (.iconst 3, 1) := by decide +kernel
theorem dL_law_203 : decode cL_law 203 = .ok (.iadd, 1) := by decide +kernel
theorem dL_law_204 : decode cL_law 204 = .ok (.iaload, 1) := by decide +kernel
theorem dL_law_205 : decode cL_law 205 = .ok (.aload_n 0, 1) := by decide +kernel
theorem dL_law_206 : decode cL_law 206 = .ok (.iload 4, 2) := by decide +kernel
theorem dL_law_208 : decode cL_law 208 = .ok (.iconst 4, 1) := by decide +kernel
theorem dL_law_209 : decode cL_law 209 = .ok (.iadd, 1) := by decide +kernel
theorem dL_law_210 : decode cL_law 210 = .ok (.iaload, 1) := by decide +kernel
theorem dL_law_211 : decode cL_law 211 = .ok (.aload_n 0, 1) := by decide +kernel
theorem dL_law_212 : decode cL_law 212 = .ok (.iload 4, 2) := by decide +kernel
theorem dL_law_214 : decode cL_law 214 = .ok (.iconst 5, 1) := by decide +kernel
theorem dL_law_215 : decode cL_law 215 = .ok (.iadd, 1) := by decide +kernel
theorem dL_law_216 : decode cL_law 216 = .ok (.iaload, 1) := by decide +kernel
theorem dL_law_217 : decode cL_law 217 = .ok (.invokevirtual 38, 3) := by decide +kernel
theorem dL_law_220 : decode cL_law 220 = .ok (.if_icmp .eq 435, 3) := by decide +kernel
theorem dL_law_223 : decode cL_law 223 = .ok (.iconst 0, 1) := by decide +kernel
theorem dL_law_224 : decode cL_law 224 = .ok (.ireturn, 1) := by decide +kernel
theorem dL_law_225 : decode cL_law 225 = .ok (.aload_n 1, 1) := by decide +kernel
theorem dL_law_226 : decode cL_law 226 = .ok (.aload_n 0, 1) := by decide +kernel
theorem dL_law_227 : decode cL_law 227 = .ok (.iload 4, 2) := by decide +kernel
theorem dL_law_229 : decode cL_law 229 = .ok (.iconst 1, 1) := by decide +kernel
theorem dL_law_230 : decode cL_law 230 = .ok (.iadd, 1) := by decide +kernel
theorem dL_law_231 : decode cL_law 231 = .ok (.iaload, 1) := by decide +kernel
theorem dL_law_232 : decode cL_law 232 = .ok (.aload_n 0, 1) := by decide +kernel
theorem dL_law_233 : decode cL_law 233 = .ok (.iload 4, 2) := by decide +kernel
theorem dL_law_235 : decode cL_law 235 = .ok (.iconst 2, 1) := by decide +kernel
theorem dL_law_236 : decode cL_law 236 = .ok (.iadd, 1) := by decide +kernel
theorem dL_law_237 : decode cL_law 237 = .ok (.iaload, 1) := by decide +kernel
theorem dL_law_238 : decode cL_law 238 = .ok (.invokevirtual 39, 3) := by decide +kernel
theorem dL_law_241 : decode cL_law 241 = .ok (.aload_n 2, 1) := by decide +kernel
theorem dL_law_242 : decode cL_law 242 = .ok (.aload_n 0, 1) := by decide +kernel
theorem dL_law_243 : decode cL_law 243 = .ok (.iload 4, 2) := by decide +kernel
theorem dL_law_245 : decode cL_law 245 = .ok (.iconst 1, 1) := by decide +kernel
theorem dL_law_246 : decode cL_law 246 = .ok (.iadd, 1) := by decide +kernel
theorem dL_law_247 : decode cL_law 247 = .ok (.iaload, 1) := by decide +kernel
theorem dL_law_248 : decode cL_law 248 = .ok (.aload_n 0, 1) := by decide +kernel
theorem dL_law_249 : decode cL_law 249 = .ok (.iload 4, 2) := by decide +kernel
theorem dL_law_251 : decode cL_law 251 = .ok (.iconst 2, 1) := by decide +kernel
theorem dL_law_252 : decode cL_law 252 = .ok (.iadd, 1) := by decide +kernel
theorem dL_law_253 : decode cL_law 253 = .ok (.iaload, 1) := by decide +kernel
theorem dL_law_254 : decode cL_law 254 = .ok (.invokevirtual 43, 3) := by decide +kernel
theorem dL_law_257 : decode cL_law 257 = .ok (.if_icmp .eq 398, 3) := by decide +kernel
theorem dL_law_260 : decode cL_law 260 = .ok (.iconst 0, 1) := by decide +kernel
theorem dL_law_261 : decode cL_law 261 = .ok (.ireturn, 1) := by decide +kernel
theorem dL_law_262 : decode cL_law 262 = .ok (.aload_n 1, 1) := by decide +kernel
theorem dL_law_263 : decode cL_law 263 = .ok (.aload_n 0, 1) := by decide +kernel
theorem dL_law_264 : decode cL_law 264 = .ok (.iload 4, 2) := by decide +kernel
theorem dL_law_266 : decode cL_law 266 = .ok (.iconst 1, 1) := by decide +kernel
theorem dL_law_267 : decode cL_law 267 = .ok (.iadd, 1) := by decide +kernel
theorem dL_law_268 : decode cL_law 268 = .ok (.iaload, 1) := by decide +kernel
theorem dL_law_269 : decode cL_law 269 = .ok (.aload_n 0, 1) := by decide +kernel
theorem dL_law_270 : decode cL_law 270 = .ok (.iload 4, 2) := by decide +kernel
theorem dL_law_272 : decode cL_law 272 = .ok (.iconst 2, 1) := by decide +kernel
theorem dL_law_273 : decode cL_law 273 = .ok (.iadd, 1) := by decide +kernel
theorem dL_law_274 : decode cL_law 274 = .ok (.iaload, 1) := by decide +kernel
theorem dL_law_275 : decode cL_law 275 = .ok (.ifCond .eq 7, 3) := by decide +kernel
theorem dL_law_278 : decode cL_law 278 = .ok (.iconst 1, 1) := by decide +kernel
theorem dL_law_279 : decode cL_law 279 = .ok (.goto 4, 3) := by decide +kernel
theorem dL_law_282 : decode cL_law 282 = .ok (.iconst 0, 1) := by decide +kernel
theorem dL_law_283 : decode cL_law 283 = .ok (.invokevirtual 44, 3) := by decide +kernel
theorem dL_law_286 : decode cL_law 286 = .ok (.aload_n 2, 1) := by decide +kernel
theorem dL_law_287 : decode cL_law 287 = .ok (.aload_n 0, 1) := by decide +kernel
theorem dL_law_288 : decode cL_law 288 = .ok (.iload 4, 2) := by decide +kernel
theorem dL_law_290 : decode cL_law 290 = .ok (.iconst 1, 1) := by decide +kernel
theorem dL_law_291 : decode cL_law 291 = .ok (.iadd, 1) := by decide +kernel
theorem dL_law_292 : decode cL_law 292 = .ok (.iaload, 1) := by decide +kernel
theorem dL_law_293 : decode cL_law 293 = .ok (.aload_n 0, 1) := by decide +kernel
theorem dL_law_294 : decode cL_law 294 = .ok (.iload 4, 2) := by decide +kernel
theorem dL_law_296 : decode cL_law 296 = .ok (.iconst 2, 1) := by decide +kernel
theorem dL_law_297 : decode cL_law 297 = .ok (.iadd, 1) := by decide +kernel
theorem dL_law_298 : decode cL_law 298 = .ok (.iaload, 1) := by decide +kernel
theorem dL_law_299 : decode cL_law 299 = .ok (.ifCond .eq 7, 3) := by decide +kernel
theorem dL_law_302 : decode cL_law 302 = .ok (.iconst 1, 1) := by decide +kernel
theorem dL_law_303 : decode cL_law 303 = .ok (.goto 4, 3) := by decide +kernel
theorem dL_law_306 : decode cL_law 306 = .ok (.iconst 0, 1) := by decide +kernel
theorem dL_law_307 : decode cL_law 307 = .ok (.invokevirtual 48, 3) := by decide +kernel
theorem dL_law_310 : decode cL_law 310 = .ok (.if_icmp .eq 345, 3) := by decide +kernel
theorem dL_law_313 : decode cL_law 313 = .ok (.iconst 0, 1) := by decide +kernel
theorem dL_law_314 : decode cL_law 314 = .ok (.ireturn, 1) := by decide +kernel
theorem dL_law_315 : decode cL_law 315 = .ok (.aload_n 1, 1) := by decide +kernel
theorem dL_law_316 : decode cL_law 316 = .ok (.aload_n 0, 1) := by decide +kernel
theorem dL_law_317 : decode cL_law 317 = .ok (.iload 4, 2) := by decide +kernel
theorem dL_law_319 : decode cL_law 319 = .ok (.iconst 1, 1) := by decide +kernel
theorem dL_law_320 : decode cL_law 320 = .ok (.iadd, 1) := by decide +kernel
theorem dL_law_321 : decode cL_law 321 = .ok (.iaload, 1) := by decide +kernel
theorem dL_law_322 : decode cL_law 322 = .ok (.aload_n 0, 1) := by decide +kernel
theorem dL_law_323 : decode cL_law 323 = .ok (.iload 4, 2) := by decide +kernel
theorem dL_law_325 : decode cL_law 325 = .ok (.iconst 2, 1) := by decide +kernel
theorem dL_law_326 : decode cL_law 326 = .ok (.iadd, 1) := by decide +kernel
theorem dL_law_327 : decode cL_law 327 = .ok (.iaload, 1) := by decide +kernel
theorem dL_law_328 : decode cL_law 328 = .ok (.aload_n 0, 1) := by decide +kernel
theorem dL_law_329 : decode cL_law 329 = .ok (.iload 4, 2) := by decide +kernel
theorem dL_law_331 : decode cL_law 331 = .ok (.iconst 3, 1) := by decide +kernel
theorem dL_law_332 : decode cL_law 332 = .ok (.iadd, 1) := by decide +kernel
theorem dL_law_333 : decode cL_law 333 = .ok (.iaload, 1) := by decide +kernel
theorem dL_law_334 : decode cL_law 334 = .ok (.aload_n 0, 1) := by decide +kernel
theorem dL_law_335 : decode cL_law 335 = .ok (.iload 4, 2) := by decide +kernel
theorem dL_law_337 : decode cL_law 337 = .ok (.iconst 4, 1) := by decide +kernel
theorem dL_law_338 : decode cL_law 338 = .ok (.iadd, 1) := by decide +kernel
theorem dL_law_339 : decode cL_law 339 = .ok (.iaload, 1) := by decide +kernel
theorem dL_law_340 : decode cL_law 340 = .ok (.invokevirtual 49, 3) := by decide +kernel
theorem dL_law_343 : decode cL_law 343 = .ok (.aload_n 2, 1) := by decide +kernel
theorem dL_law_344 : decode cL_law 344 = .ok (.aload_n 0, 1) := by decide +kernel
theorem dL_law_345 : decode cL_law 345 = .ok (.iload 4, 2) := by decide +kernel
theorem dL_law_347 : decode cL_law 347 = .ok (.iconst 1, 1) := by decide +kernel
theorem dL_law_348 : decode cL_law 348 = .ok (.iadd, 1) := by decide +kernel
theorem dL_law_349 : decode cL_law 349 = .ok (.iaload, 1) := by decide +kernel
theorem dL_law_350 : decode cL_law 350 = .ok (.aload_n 0, 1) := by decide +kernel
theorem dL_law_351 : decode cL_law 351 = .ok (.iload 4, 2) := by decide +kernel
theorem dL_law_353 : decode cL_law 353 = .ok (.iconst 2, 1) := by decide +kernel
theorem dL_law_354 : decode cL_law 354 = .ok (.iadd, 1) := by decide +kernel
theorem dL_law_355 : decode cL_law 355 = .ok (.iaload, 1) := by decide +kernel
theorem dL_law_356 : decode cL_law 356 = .ok (.aload_n 0, 1) := by decide +kernel
theorem dL_law_357 : decode cL_law 357 = .ok (.iload 4, 2) := by decide +kernel
theorem dL_law_359 : decode cL_law 359 = .ok (.iconst 3, 1) := by decide +kernel
theorem dL_law_360 : decode cL_law 360 = .ok (.iadd, 1) := by decide +kernel
theorem dL_law_361 : decode cL_law 361 = .ok (.iaload, 1) := by decide +kernel
theorem dL_law_362 : decode cL_law 362 = .ok (.aload_n 0, 1) := by decide +kernel
theorem dL_law_363 : decode cL_law 363 = .ok (.iload 4, 2) := by decide +kernel
theorem dL_law_365 : decode cL_law 365 = .ok (.iconst 4, 1) := by decide +kernel
theorem dL_law_366 : decode cL_law 366 = .ok (.iadd, 1) := by decide +kernel
theorem dL_law_367 : decode cL_law 367 = .ok (.iaload, 1) := by decide +kernel
theorem dL_law_368 : decode cL_law 368 = .ok (.invokevirtual 53, 3) := by decide +kernel
theorem dL_law_371 : decode cL_law 371 = .ok (.if_icmp .eq 284, 3) := by decide +kernel
theorem dL_law_374 : decode cL_law 374 = .ok (.iconst 0, 1) := by decide +kernel
theorem dL_law_375 : decode cL_law 375 = .ok (.ireturn, 1) := by decide +kernel
theorem dL_law_376 : decode cL_law 376 = .ok (.aload_n 1, 1) := by decide +kernel
theorem dL_law_377 : decode cL_law 377 = .ok (.aload_n 0, 1) := by decide +kernel
theorem dL_law_378 : decode cL_law 378 = .ok (.iload 4, 2) := by decide +kernel
theorem dL_law_380 : decode cL_law 380 = .ok (.iconst 1, 1) := by decide +kernel
theorem dL_law_381 : decode cL_law 381 = .ok (.iadd, 1) := by decide +kernel
theorem dL_law_382 : decode cL_law 382 = .ok (.iaload, 1) := by decide +kernel
theorem dL_law_383 : decode cL_law 383 = .ok (.aload_n 0, 1) := by decide +kernel
theorem dL_law_384 : decode cL_law 384 = .ok (.iload 4, 2) := by decide +kernel
theorem dL_law_386 : decode cL_law 386 = .ok (.iconst 2, 1) := by decide +kernel
theorem dL_law_387 : decode cL_law 387 = .ok (.iadd, 1) := by decide +kernel
theorem dL_law_388 : decode cL_law 388 = .ok (.iaload, 1) := by decide +kernel
theorem dL_law_389 : decode cL_law 389 = .ok (.aload_n 0, 1) := by decide +kernel
theorem dL_law_390 : decode cL_law 390 = .ok (.iload 4, 2) := by decide +kernel
theorem dL_law_392 : decode cL_law 392 = .ok (.iconst 3, 1) := by decide +kernel
theorem dL_law_393 : decode cL_law 393 = .ok (.iadd, 1) := by decide +kernel
theorem dL_law_394 : decode cL_law 394 = .ok (.iaload, 1) := by decide +kernel
theorem dL_law_395 : decode cL_law 395 = .ok (.aload_n 3, 1) := by decide +kernel
theorem dL_law_396 : decode cL_law 396 = .ok (.invokestatic 54, 3) := by decide +kernel
theorem dL_law_399 : decode cL_law 399 = .ok (.istore 5, 2) := by decide +kernel
theorem dL_law_401 : decode cL_law 401 = .ok (.aload_n 2, 1) := by decide +kernel
theorem dL_law_402 : decode cL_law 402 = .ok (.aload_n 0, 1) := by decide +kernel
theorem dL_law_403 : decode cL_law 403 = .ok (.iload 4, 2) := by decide +kernel
theorem dL_law_405 : decode cL_law 405 = .ok (.iconst 1, 1) := by decide +kernel
theorem dL_law_406 : decode cL_law 406 = .ok (.iadd, 1) := by decide +kernel
theorem dL_law_407 : decode cL_law 407 = .ok (.iaload, 1) := by decide +kernel
theorem dL_law_408 : decode cL_law 408 = .ok (.aload_n 0, 1) := by decide +kernel
theorem dL_law_409 : decode cL_law 409 = .ok (.iload 4, 2) := by decide +kernel
theorem dL_law_411 : decode cL_law 411 = .ok (.iconst 2, 1) := by decide +kernel
theorem dL_law_412 : decode cL_law 412 = .ok (.iadd, 1) := by decide +kernel
theorem dL_law_413 : decode cL_law 413 = .ok (.iaload, 1) := by decide +kernel
theorem dL_law_414 : decode cL_law 414 = .ok (.aload_n 0, 1) := by decide +kernel
theorem dL_law_415 : decode cL_law 415 = .ok (.iload 4, 2) := by decide +kernel
theorem dL_law_417 : decode cL_law 417 = .ok (.iconst 3, 1) := by decide +kernel
theorem dL_law_418 : decode cL_law 418 = .ok (.iadd, 1) := by decide +kernel
theorem dL_law_419 : decode cL_law 419 = .ok (.iaload, 1) := by decide +kernel
theorem dL_law_420 : decode cL_law 420 = .ok (.invokevirtual 59, 3) := by decide +kernel
theorem dL_law_423 : decode cL_law 423 = .ok (.istore 6, 2) := by decide +kernel
theorem dL_law_425 : decode cL_law 425 = .ok (.aload_n 2, 1) := by decide +kernel
theorem dL_law_426 : decode cL_law 426 = .ok (.invokevirtual 60, 3) := by decide +kernel
theorem dL_law_429 : decode cL_law 429 = .ok (.iload 5, 2) := by decide +kernel
theorem dL_law_431 : decode cL_law 431 = .ok (.if_icmp .eq 5, 3) := by decide +kernel
theorem dL_law_434 : decode cL_law 434 = .ok (.iconst 0, 1) := by decide +kernel
theorem dL_law_435 : decode cL_law 435 = .ok (.ireturn, 1) := by decide +kernel
theorem dL_law_436 : decode cL_law 436 = .ok (.iload 5, 2) := by decide +kernel
theorem dL_law_438 : decode cL_law 438 = .ok (.ifCond .ne 15, 3) := by decide +kernel
theorem dL_law_441 : decode cL_law 441 = .ok (.aload_n 3, 1) := by decide +kernel
theorem dL_law_442 : decode cL_law 442 = .ok (.iconst 0, 1) := by decide +kernel
theorem dL_law_443 : decode cL_law 443 = .ok (.laload, 1) := by decide +kernel
theorem dL_law_444 : decode cL_law 444 = .ok (.iload 6, 2) := by decide +kernel
theorem dL_law_446 : decode cL_law 446 = .ok (.i2l, 1) := by decide +kernel
theorem dL_law_447 : decode cL_law 447 = .ok (.lcmp, 1) := by decide +kernel
theorem dL_law_448 : decode cL_law 448 = .ok (.ifCond .eq 5, 3) := by decide +kernel
theorem dL_law_451 : decode cL_law 451 = .ok (.iconst 0, 1) := by decide +kernel
theorem dL_law_452 : decode cL_law 452 = .ok (.ireturn, 1) := by decide +kernel
theorem dL_law_453 : decode cL_law 453 = .ok (.goto 202, 3) := by decide +kernel
theorem dL_law_456 : decode cL_law 456 = .ok (.aload_n 1, 1) := by decide +kernel
theorem dL_law_457 : decode cL_law 457 = .ok (.aload_n 0, 1) := by decide +kernel
theorem dL_law_458 : decode cL_law 458 = .ok (.iload 4, 2) := by decide +kernel
theorem dL_law_460 : decode cL_law 460 = .ok (.iconst 1, 1) := by decide +kernel
theorem dL_law_461 : decode cL_law 461 = .ok (.iadd, 1) := by decide +kernel
theorem dL_law_462 : decode cL_law 462 = .ok (.iaload, 1) := by decide +kernel
theorem dL_law_463 : decode cL_law 463 = .ok (.aload_n 0, 1) := by decide +kernel
theorem dL_law_464 : decode cL_law 464 = .ok (.iload 4, 2) := by decide +kernel
theorem dL_law_466 : decode cL_law 466 = .ok (.iconst 2, 1) := by decide +kernel
theorem dL_law_467 : decode cL_law 467 = .ok (.iadd, 1) := by decide +kernel
theorem dL_law_468 : decode cL_law 468 = .ok (.iaload, 1) := by decide +kernel
theorem dL_law_469 : decode cL_law 469 = .ok (.aload_n 0, 1) := by decide +kernel
theorem dL_law_470 : decode cL_law 470 = .ok (.iload 4, 2) := by decide +kernel
theorem dL_law_472 : decode cL_law 472 = .ok (.iconst 3, 1) := by decide +kernel
theorem dL_law_473 : decode cL_law 473 = .ok (.iadd, 1) := by decide +kernel
theorem dL_law_474 : decode cL_law 474 = .ok (.iaload, 1) := by decide +kernel
theorem dL_law_475 : decode cL_law 475 = .ok (.aload_n 3, 1) := by decide +kernel
theorem dL_law_476 : decode cL_law 476 = .ok (.invokestatic 64, 3) := by decide +kernel
theorem dL_law_479 : decode cL_law 479 = .ok (.istore 5, 2) := by decide +kernel
theorem dL_law_481 : decode cL_law 481 = .ok (.aload_n 2, 1) := by decide +kernel
theorem dL_law_482 : decode cL_law 482 = .ok (.aload_n 0, 1) := by decide +kernel
theorem dL_law_483 : decode cL_law 483 = .ok (.iload 4, 2) := by decide +kernel
theorem dL_law_485 : decode cL_law 485 = .ok (.iconst 1, 1) := by decide +kernel
theorem dL_law_486 : decode cL_law 486 = .ok (.iadd, 1) := by decide +kernel
theorem dL_law_487 : decode cL_law 487 = .ok (.iaload, 1) := by decide +kernel
theorem dL_law_488 : decode cL_law 488 = .ok (.aload_n 0, 1) := by decide +kernel
theorem dL_law_489 : decode cL_law 489 = .ok (.iload 4, 2) := by decide +kernel
theorem dL_law_491 : decode cL_law 491 = .ok (.iconst 2, 1) := by decide +kernel
theorem dL_law_492 : decode cL_law 492 = .ok (.iadd, 1) := by decide +kernel
theorem dL_law_493 : decode cL_law 493 = .ok (.iaload, 1) := by decide +kernel
theorem dL_law_494 : decode cL_law 494 = .ok (.aload_n 0, 1) := by decide +kernel
theorem dL_law_495 : decode cL_law 495 = .ok (.iload 4, 2) := by decide +kernel
theorem dL_law_497 : decode cL_law 497 = .ok (.iconst 3, 1) := by decide +kernel
theorem dL_law_498 : decode cL_law 498 = .ok (.iadd, 1) := by decide +kernel
theorem dL_law_499 : decode cL_law 499 = .ok (.iaload, 1) := by decide +kernel
theorem dL_law_500 : decode cL_law 500 = .ok (.invokevirtual 66, 3) := by decide +kernel
theorem dL_law_503 : decode cL_law 503 = .ok (.istore 6, 2) := by decide +kernel
theorem dL_law_505 : decode cL_law 505 = .ok (.aload_n 2, 1) := by decide +kernel
theorem dL_law_506 : decode cL_law 506 = .ok (.invokevirtual 60, 3) := by decide +kernel
theorem dL_law_509 : decode cL_law 509 = .ok (.iload 5, 2) := by decide +kernel
theorem dL_law_511 : decode cL_law 511 = .ok (.if_icmp .eq 5, 3) := by decide +kernel
theorem dL_law_514 : decode cL_law 514 = .ok (.iconst 0, 1) := by decide +kernel
theorem dL_law_515 : decode cL_law 515 = .ok (.ireturn, 1) := by decide +kernel
theorem dL_law_516 : decode cL_law 516 = .ok (.iload 5, 2) := by decide +kernel
theorem dL_law_518 : decode cL_law 518 = .ok (.ifCond .ne 15, 3) := by decide +kernel
theorem dL_law_521 : decode cL_law 521 = .ok (.aload_n 3, 1) := by decide +kernel
theorem dL_law_522 : decode cL_law 522 = .ok (.iconst 0, 1) := by decide +kernel
theorem dL_law_523 : decode cL_law 523 = .ok (.laload, 1) := by decide +kernel
theorem dL_law_524 : decode cL_law 524 = .ok (.iload 6, 2) := by decide +kernel
theorem dL_law_526 : decode cL_law 526 = .ok (.i2l, 1) := by decide +kernel
theorem dL_law_527 : decode cL_law 527 = .ok (.lcmp, 1) := by decide +kernel
theorem dL_law_528 : decode cL_law 528 = .ok (.ifCond .eq 5, 3) := by decide +kernel
theorem dL_law_531 : decode cL_law 531 = .ok (.iconst 0, 1) := by decide +kernel
theorem dL_law_532 : decode cL_law 532 = .ok (.ireturn, 1) := by decide +kernel
theorem dL_law_533 : decode cL_law 533 = .ok (.goto 122, 3) := by decide +kernel
theorem dL_law_536 : decode cL_law 536 = .ok (.aload_n 1, 1) := by decide +kernel
theorem dL_law_537 : decode cL_law 537 = .ok (.invokevirtual 67, 3) := by decide +kernel
theorem dL_law_540 : decode cL_law 540 = .ok (.aload_n 2, 1) := by decide +kernel
theorem dL_law_541 : decode cL_law 541 = .ok (.invokevirtual 70, 3) := by decide +kernel
theorem dL_law_544 : decode cL_law 544 = .ok (.if_icmp .eq 111, 3) := by decide +kernel
theorem dL_law_547 : decode cL_law 547 = .ok (.iconst 0, 1) := by decide +kernel
theorem dL_law_548 : decode cL_law 548 = .ok (.ireturn, 1) := by decide +kernel
theorem dL_law_549 : decode cL_law 549 = .ok (.aload_n 1, 1) := by decide +kernel
theorem dL_law_550 : decode cL_law 550 = .ok (.aload_n 0, 1) := by decide +kernel
theorem dL_law_551 : decode cL_law 551 = .ok (.iload 4, 2) := by decide +kernel
theorem dL_law_553 : decode cL_law 553 = .ok (.iconst 1, 1) := by decide +kernel
theorem dL_law_554 : decode cL_law 554 = .ok (.iadd, 1) := by decide +kernel
theorem dL_law_555 : decode cL_law 555 = .ok (.iaload, 1) := by decide +kernel
theorem dL_law_556 : decode cL_law 556 = .ok (.invokevirtual 71, 3) := by decide +kernel
theorem dL_law_559 : decode cL_law 559 = .ok (.aload_n 2, 1) := by decide +kernel
theorem dL_law_560 : decode cL_law 560 = .ok (.aload_n 0, 1) := by decide +kernel
theorem dL_law_561 : decode cL_law 561 = .ok (.iload 4, 2) := by decide +kernel
theorem dL_law_563 : decode cL_law 563 = .ok (.iconst 1, 1) := by decide +kernel
theorem dL_law_564 : decode cL_law 564 = .ok (.iadd, 1) := by decide +kernel
theorem dL_law_565 : decode cL_law 565 = .ok (.iaload, 1) := by decide +kernel
theorem dL_law_566 : decode cL_law 566 = .ok (.invokevirtual 75, 3) := by decide +kernel
theorem dL_law_569 : decode cL_law 569 = .ok (.if_icmp .eq 86, 3) := by decide +kernel
theorem dL_law_572 : decode cL_law 572 = .ok (.iconst 0, 1) := by decide +kernel
theorem dL_law_573 : decode cL_law 573 = .ok (.ireturn, 1) := by decide +kernel
theorem dL_law_574 : decode cL_law 574 = .ok (.aload_n 1, 1) := by decide +kernel
theorem dL_law_575 : decode cL_law 575 = .ok (.aload_n 0, 1) := by decide +kernel
theorem dL_law_576 : decode cL_law 576 = .ok (.iload 4, 2) := by decide +kernel
theorem dL_law_578 : decode cL_law 578 = .ok (.iconst 1, 1) := by decide +kernel
theorem dL_law_579 : decode cL_law 579 = .ok (.iadd, 1) := by decide +kernel
theorem dL_law_580 : decode cL_law 580 = .ok (.iaload, 1) := by decide +kernel
theorem dL_law_581 : decode cL_law 581 = .ok (.aload_n 0, 1) := by decide +kernel
theorem dL_law_582 : decode cL_law 582 = .ok (.iload 4, 2) := by decide +kernel
theorem dL_law_584 : decode cL_law 584 = .ok (.iconst 2, 1) := by decide +kernel
theorem dL_law_585 : decode cL_law 585 = .ok (.iadd, 1) := by decide +kernel
theorem dL_law_586 : decode cL_law 586 = .ok (.iaload, 1) := by decide +kernel
theorem dL_law_587 : decode cL_law 587 = .ok (.aload_n 3, 1) := by decide +kernel
theorem dL_law_588 : decode cL_law 588 = .ok (.invokestatic 76, 3) := by decide +kernel
theorem dL_law_591 : decode cL_law 591 = .ok (.istore 5, 2) := by decide +kernel
theorem dL_law_593 : decode cL_law 593 = .ok (.aload_n 2, 1) := by decide +kernel
theorem dL_law_594 : decode cL_law 594 = .ok (.aload_n 0, 1) := by decide +kernel
theorem dL_law_595 : decode cL_law 595 = .ok (.iload 4, 2) := by decide +kernel
theorem dL_law_597 : decode cL_law 597 = .ok (.iconst 1, 1) := by decide +kernel
theorem dL_law_598 : decode cL_law 598 = .ok (.iadd, 1) := by decide +kernel
theorem dL_law_599 : decode cL_law 599 = .ok (.iaload, 1) := by decide +kernel
theorem dL_law_600 : decode cL_law 600 = .ok (.aload_n 0, 1) := by decide +kernel
theorem dL_law_601 : decode cL_law 601 = .ok (.iload 4, 2) := by decide +kernel
theorem dL_law_603 : decode cL_law 603 = .ok (.iconst 2, 1) := by decide +kernel
theorem dL_law_604 : decode cL_law 604 = .ok (.iadd, 1) := by decide +kernel
theorem dL_law_605 : decode cL_law 605 = .ok (.iaload, 1) := by decide +kernel
theorem dL_law_606 : decode cL_law 606 = .ok (.invokevirtual 79, 3) := by decide +kernel
theorem dL_law_609 : decode cL_law 609 = .ok (.istore 6, 2) := by decide +kernel
theorem dL_law_611 : decode cL_law 611 = .ok (.aload_n 2, 1) := by decide +kernel
theorem dL_law_612 : decode cL_law 612 = .ok (.invokevirtual 60, 3) := by decide +kernel
theorem dL_law_615 : decode cL_law 615 = .ok (.iload 5, 2) := by decide +kernel
theorem dL_law_617 : decode cL_law 617 = .ok (.if_icmp .eq 5, 3) := by decide +kernel
theorem dL_law_620 : decode cL_law 620 = .ok (.iconst 0, 1) := by decide +kernel
theorem dL_law_621 : decode cL_law 621 = .ok (.ireturn, 1) := by decide +kernel
theorem dL_law_622 : decode cL_law 622 = .ok (.iload 5, 2) := by decide +kernel
theorem dL_law_624 : decode cL_law 624 = .ok (.ifCond .ne 15, 3) := by decide +kernel
theorem dL_law_627 : decode cL_law 627 = .ok (.aload_n 3, 1) := by decide +kernel
theorem dL_law_628 : decode cL_law 628 = .ok (.iconst 0, 1) := by decide +kernel
theorem dL_law_629 : decode cL_law 629 = .ok (.laload, 1) := by decide +kernel
theorem dL_law_630 : decode cL_law 630 = .ok (.iload 6, 2) := by decide +kernel
theorem dL_law_632 : decode cL_law 632 = .ok (.i2l, 1) := by decide +kernel
theorem dL_law_633 : decode cL_law 633 = .ok (.lcmp, 1) := by decide +kernel
theorem dL_law_634 : decode cL_law 634 = .ok (.ifCond .eq 5, 3) := by decide +kernel
theorem dL_law_637 : decode cL_law 637 = .ok (.iconst 0, 1) := by decide +kernel
theorem dL_law_638 : decode cL_law 638 = .ok (.ireturn, 1) := by decide +kernel
theorem dL_law_639 : decode cL_law 639 = .ok (.goto 16, 3) := by decide +kernel
theorem dL_law_642 : decode cL_law 642 = .ok (.aload_n 1, 1) := by decide +kernel
theorem dL_law_643 : decode cL_law 643 = .ok (.invokevirtual 80, 3) := by decide +kernel
theorem dL_law_646 : decode cL_law 646 = .ok (.aload_n 2, 1) := by decide +kernel
theorem dL_law_647 : decode cL_law 647 = .ok (.invokevirtual 83, 3) := by decide +kernel
theorem dL_law_650 : decode cL_law 650 = .ok (.if_icmp .eq 5, 3) := by decide +kernel
theorem dL_law_653 : decode cL_law 653 = .ok (.iconst 0, 1) := by decide +kernel
theorem dL_law_654 : decode cL_law 654 = .ok (.ireturn, 1) := by decide +kernel
theorem dL_law_655 : decode cL_law 655 = .ok (.iinc 4 6, 3) := by decide +kernel
theorem dL_law_658 : decode cL_law 658 = .ok (.goto (-635), 3) := by decide +kernel
theorem dL_law_661 : decode cL_law 661 = .ok (.iconst 1, 1) := by decide +kernel
theorem dL_law_662 : decode cL_law 662 = .ok (.ireturn, 1) := by decide +kernel
end
section
/-! the words: one list for every method; a row a word: written by gen_names.py -/
def ws_all : List Cond := lw_tbl.filter goodWord
theorem ws_in {w : Cond} (h : w ∈ lw_tbl) (hg : goodWord w = true) : w ∈ ws_all := List.mem_filter.mpr ⟨h, hg⟩
theorem ws_t {w : Cond} {i : Nat} (h : tables_1[i]? = some w) (hg : goodWord w = true) : w ∈ ws_all := ws_in (List.mem_append_right _ (List.mem_of_getElem? h)) hg
theorem ws_s {y : MethodName} {n : Nat} (h : (y, n) ∈ lw_privs) (hg : goodWord (.selects y.cls y y) = true) : Cond.selects y.cls y y ∈ ws_all := ws_in (List.mem_append_left _ (List.mem_map.mpr ⟨(y, n), h, rfl⟩)) hg
theorem ws_good {w : Cond} (h : w ∈ ws_all) : goodWord w = true := (List.mem_filter.mp h).2
theorem ws_tbl {w : Cond} (h : w ∈ ws_all) : w ∈ lw_tbl := (List.mem_filter.mp h).1
theorem w_0 : Cond.initialized RL ∈ ws_all := ws_t (i := 0) rfl (by decide +kernel)
theorem w_1 : Cond.initialized RS ∈ ws_all := ws_t (i := 1) rfl (by decide +kernel)
theorem w_2 : Cond.initialized RT ∈ ws_all := ws_t (i := 2) rfl (by decide +kernel)
theorem w_3 : Cond.initialized RJ ∈ ws_all := ws_t (i := 3) rfl (by decide +kernel)
theorem w_4 : Cond.initialized RM ∈ ws_all := ws_t (i := 4) rfl (by decide +kernel)
theorem w_8 : Cond.initialized "java/util/NoSuchElementException" ∈ ws_all := ws_t (i := 8) rfl (by decide +kernel)
theorem w_9 : Cond.initialized "java/lang/System" ∈ ws_all := ws_t (i := 9) rfl (by decide +kernel)
theorem w_10 : Cond.classLink RL 8 "SceneTree" ∈ ws_all := ws_t (i := 10) rfl (by decide +kernel)
theorem w_11 : Cond.instantiable RS 14 ∈ ws_all := ws_t (i := 11) rfl (by decide +kernel)
theorem w_12 : Cond.methodLink RL 22 yS_init ∈ ws_all := ws_t (i := 12) rfl (by decide +kernel)
theorem w_13 : Cond.instanceMethod yS_init ∈ ws_all := ws_t (i := 13) rfl (by decide +kernel)
theorem w_14 : Cond.code yS_init cS_init 1 (Option.none : Option FieldType) ∈ ws_all := ws_t (i := 14) rfl (by decide +kernel)
theorem w_15 : Cond.methodLink RS 1 ⟨"java/lang/Object", "<init>", "()V"⟩ ∈ ws_all := ws_t (i := 15) rfl (by decide +kernel)
theorem w_16 : Cond.instanceMethod ⟨"java/lang/Object", "<init>", "()V"⟩ ∈ ws_all := ws_t (i := 16) rfl (by decide +kernel)
theorem w_17 : Cond.code ⟨"java/lang/Object", "<init>", "()V"⟩ object_method_1_code 1 (Option.none : Option FieldType) ∈ ws_all := ws_t (i := 17) rfl (by decide +kernel)
theorem w_18 : Cond.classLink RS 24 "[[I" ∈ ws_all := ws_t (i := 18) rfl (by decide +kernel)
theorem w_20 : Cond.classLink RS 53 "SceneTree$Turner" ∈ ws_all := ws_t (i := 20) rfl (by decide +kernel)
theorem w_21 : Cond.instantiable RT 5 ∈ ws_all := ws_t (i := 21) rfl (by decide +kernel)
theorem w_23 : Cond.instanceMethod yT_init ∈ ws_all := ws_t (i := 23) rfl (by decide +kernel)
theorem w_24 : Cond.code yT_init cT_init 1 (Option.none : Option FieldType) ∈ ws_all := ws_t (i := 24) rfl (by decide +kernel)
theorem w_25 : Cond.methodLink RT 3 ⟨"java/lang/Object", "<init>", "()V"⟩ ∈ ws_all := ws_t (i := 25) rfl (by decide +kernel)
theorem w_26 : Cond.fieldLink RT 9 "SceneTree$Turner" "x" "[I" ∈ ws_all := ws_t (i := 26) rfl (by decide +kernel)
theorem w_27 : Cond.fieldLink RT 15 "SceneTree$Turner" "y" "[I" ∈ ws_all := ws_t (i := 27) rfl (by decide +kernel)
theorem w_28 : Cond.fieldLink RT 18 "SceneTree$Turner" "z" "[I" ∈ ws_all := ws_t (i := 28) rfl (by decide +kernel)
theorem w_29 : Cond.fieldLink RT 21 "SceneTree$Turner" "yx" "[I" ∈ ws_all := ws_t (i := 29) rfl (by decide +kernel)
theorem w_30 : Cond.fieldLink RT 24 "SceneTree$Turner" "whole" "[I" ∈ ws_all := ws_t (i := 30) rfl (by decide +kernel)
theorem w_31 : Cond.laysFinal "SceneTree$Turner" "SceneTree$Turner" "x" "[I" ∈ ws_all := ws_t (i := 31) rfl (by decide +kernel)
theorem w_33 : Cond.laysFinal "SceneTree$Turner" "SceneTree$Turner" "y" "[I" ∈ ws_all := ws_t (i := 33) rfl (by decide +kernel)
theorem w_35 : Cond.laysFinal "SceneTree$Turner" "SceneTree$Turner" "z" "[I" ∈ ws_all := ws_t (i := 35) rfl (by decide +kernel)
theorem w_37 : Cond.laysFinal "SceneTree$Turner" "SceneTree$Turner" "yx" "[I" ∈ ws_all := ws_t (i := 37) rfl (by decide +kernel)
theorem w_39 : Cond.laysFinal "SceneTree$Turner" "SceneTree$Turner" "whole" "[I" ∈ ws_all := ws_t (i := 39) rfl (by decide +kernel)
theorem w_42 : Cond.arrayClass FieldType.int ∈ ws_all := ws_t (i := 42) rfl (by decide +kernel)
theorem w_43 : Cond.arrayClass FieldType.boolean ∈ ws_all := ws_t (i := 43) rfl (by decide +kernel)
theorem w_44 : Cond.methodLink RS 60 yS_refreshView ∈ ws_all := ws_t (i := 44) rfl (by decide +kernel)
theorem w_46 : Cond.instanceMethod yS_refreshView ∈ ws_all := ws_t (i := 46) rfl (by decide +kernel)
theorem w_47 : Cond.code yS_refreshView cS_refreshView 7 (Option.none : Option FieldType) ∈ ws_all := ws_t (i := 47) rfl (by decide +kernel)
theorem w_50 : Cond.instanceMethod yT_turnOf ∈ ws_all := ws_t (i := 50) rfl (by decide +kernel)
theorem w_51 : Cond.code yT_turnOf cT_turnOf 2 (Option.some (FieldType.array FieldType.int)) ∈ ws_all := ws_t (i := 51) rfl (by decide +kernel)
theorem w_52 : Cond.methodLink RT 27 yT_spin ∈ ws_all := ws_t (i := 52) rfl (by decide +kernel)
theorem w_53 : Cond.static yT_spin ∈ ws_all := ws_t (i := 53) rfl (by decide +kernel)
theorem w_54 : Cond.code yT_spin cT_spin 7 (Option.none : Option FieldType) ∈ ws_all := ws_t (i := 54) rfl (by decide +kernel)
theorem w_56 : Cond.static yS_sine ∈ ws_all := ws_t (i := 56) rfl (by decide +kernel)
theorem w_57 : Cond.code yS_sine cS_sine 9 (Option.some FieldType.int) ∈ ws_all := ws_t (i := 57) rfl (by decide +kernel)
theorem w_58 : Cond.methodLink RS 158 yJ_floorMod ∈ ws_all := ws_t (i := 58) rfl (by decide +kernel)
theorem w_59 : Cond.static yJ_floorMod ∈ ws_all := ws_t (i := 59) rfl (by decide +kernel)
theorem w_60 : Cond.code yJ_floorMod cJ_floorMod 3 (Option.some FieldType.int) ∈ ws_all := ws_t (i := 60) rfl (by decide +kernel)
theorem w_61 : Cond.constantLong RS 161 (20971520 : Int64) ∈ ws_all := ws_t (i := 61) rfl (by decide +kernel)
theorem w_62 : Cond.constantLong RS 163 (4 : Int64) ∈ ws_all := ws_t (i := 62) rfl (by decide +kernel)
theorem w_63 : Cond.constantLong RS 165 (1048576 : Int64) ∈ ws_all := ws_t (i := 63) rfl (by decide +kernel)
theorem w_64 : Cond.methodLink RS 167 yJ_floorDiv ∈ ws_all := ws_t (i := 64) rfl (by decide +kernel)
theorem w_65 : Cond.static yJ_floorDiv ∈ ws_all := ws_t (i := 65) rfl (by decide +kernel)
theorem w_66 : Cond.code yJ_floorDiv cJ_floorDiv 6 (Option.some FieldType.long) ∈ ws_all := ws_t (i := 66) rfl (by decide +kernel)
theorem w_67 : Cond.constant RT 39 (65536 : Int32) ∈ ws_all := ws_t (i := 67) rfl (by decide +kernel)
theorem w_69 : Cond.static yS_multiply ∈ ws_all := ws_t (i := 69) rfl (by decide +kernel)
theorem w_70 : Cond.code yS_multiply cS_multiply 5 (Option.none : Option FieldType) ∈ ws_all := ws_t (i := 70) rfl (by decide +kernel)
theorem w_71 : Cond.methodLink RS 99 yS_productAt ∈ ws_all := ws_t (i := 71) rfl (by decide +kernel)
theorem w_72 : Cond.static yS_productAt ∈ ws_all := ws_t (i := 72) rfl (by decide +kernel)
theorem w_73 : Cond.code yS_productAt cS_productAt 7 (Option.some FieldType.int) ∈ ws_all := ws_t (i := 73) rfl (by decide +kernel)
theorem w_74 : Cond.methodLink RS 122 yS_mul ∈ ws_all := ws_t (i := 74) rfl (by decide +kernel)
theorem w_75 : Cond.static yS_mul ∈ ws_all := ws_t (i := 75) rfl (by decide +kernel)
theorem w_76 : Cond.code yS_mul cS_mul 4 (Option.some FieldType.long) ∈ ws_all := ws_t (i := 76) rfl (by decide +kernel)
theorem w_77 : Cond.methodLink RS 126 yS_bound ∈ ws_all := ws_t (i := 77) rfl (by decide +kernel)
theorem w_78 : Cond.static yS_bound ∈ ws_all := ws_t (i := 78) rfl (by decide +kernel)
theorem w_79 : Cond.code yS_bound cS_bound 2 (Option.some FieldType.int) ∈ ws_all := ws_t (i := 79) rfl (by decide +kernel)
theorem w_80 : Cond.constantLong RS 150 (-16777216 : Int64) ∈ ws_all := ws_t (i := 80) rfl (by decide +kernel)
theorem w_81 : Cond.constantLong RS 152 (16777216 : Int64) ∈ ws_all := ws_t (i := 81) rfl (by decide +kernel)
theorem w_82 : Cond.methodLink RS 154 yJ_min_JJJ ∈ ws_all := ws_t (i := 82) rfl (by decide +kernel)
theorem w_83 : Cond.static yJ_min_JJJ ∈ ws_all := ws_t (i := 83) rfl (by decide +kernel)
theorem w_84 : Cond.code yJ_min_JJJ cJ_min_JJJ 4 (Option.some FieldType.long) ∈ ws_all := ws_t (i := 84) rfl (by decide +kernel)
theorem w_85 : Cond.methodLink RS 156 yJ_max_JJJ ∈ ws_all := ws_t (i := 85) rfl (by decide +kernel)
theorem w_86 : Cond.static yJ_max_JJJ ∈ ws_all := ws_t (i := 86) rfl (by decide +kernel)
theorem w_87 : Cond.code yJ_max_JJJ cJ_max_JJJ 4 (Option.some FieldType.long) ∈ ws_all := ws_t (i := 87) rfl (by decide +kernel)
theorem w_88 : Cond.fieldLink RS 7 "SceneTree" "nodes" "I" ∈ ws_all := ws_t (i := 88) rfl (by decide +kernel)
theorem w_89 : Cond.fieldLink RS 13 "SceneTree" "parents" "[I" ∈ ws_all := ws_t (i := 89) rfl (by decide +kernel)
theorem w_90 : Cond.fieldLink RS 17 "SceneTree" "kinds" "[I" ∈ ws_all := ws_t (i := 90) rfl (by decide +kernel)
theorem w_91 : Cond.fieldLink RS 20 "SceneTree" "hidden" "[Z" ∈ ws_all := ws_t (i := 91) rfl (by decide +kernel)
theorem w_92 : Cond.fieldLink RS 26 "SceneTree" "numbers" "[[I" ∈ ws_all := ws_t (i := 92) rfl (by decide +kernel)
theorem w_93 : Cond.fieldLink RS 29 "SceneTree" "locals" "[[I" ∈ ws_all := ws_t (i := 93) rfl (by decide +kernel)
theorem w_94 : Cond.fieldLink RS 32 "SceneTree" "worlds" "[[I" ∈ ws_all := ws_t (i := 94) rfl (by decide +kernel)
theorem w_95 : Cond.fieldLink RS 35 "SceneTree" "worldsReady" "I" ∈ ws_all := ws_t (i := 95) rfl (by decide +kernel)
theorem w_96 : Cond.fieldLink RS 38 "SceneTree" "eye" "[I" ∈ ws_all := ws_t (i := 96) rfl (by decide +kernel)
theorem w_97 : Cond.fieldLink RS 41 "SceneTree" "view" "[I" ∈ ws_all := ws_t (i := 97) rfl (by decide +kernel)
theorem w_98 : Cond.fieldLink RS 44 "SceneTree" fo "[Z" ∈ ws_all := ws_t (i := 98) rfl (by decide +kernel)
theorem w_99 : Cond.fieldLink RS 47 "SceneTree" "depths" "[I" ∈ ws_all := ws_t (i := 99) rfl (by decide +kernel)
theorem w_100 : Cond.fieldLink RS 50 "SceneTree" "order" "[I" ∈ ws_all := ws_t (i := 100) rfl (by decide +kernel)
theorem w_101 : Cond.fieldLink RS 56 "SceneTree" "turner" "LSceneTree$Turner;" ∈ ws_all := ws_t (i := 101) rfl (by decide +kernel)
theorem w_102 : Cond.lays "SceneTree" "SceneTree" "nodes" "I" ∈ ws_all := ws_t (i := 102) rfl (by decide +kernel)
theorem w_104 : Cond.laysFinal "SceneTree" "SceneTree" "parents" "[I" ∈ ws_all := ws_t (i := 104) rfl (by decide +kernel)
theorem w_106 : Cond.laysFinal "SceneTree" "SceneTree" "kinds" "[I" ∈ ws_all := ws_t (i := 106) rfl (by decide +kernel)
theorem w_108 : Cond.laysFinal "SceneTree" "SceneTree" "hidden" "[Z" ∈ ws_all := ws_t (i := 108) rfl (by decide +kernel)
theorem w_110 : Cond.laysFinal "SceneTree" "SceneTree" "numbers" "[[I" ∈ ws_all := ws_t (i := 110) rfl (by decide +kernel)
theorem w_112 : Cond.laysFinal "SceneTree" "SceneTree" "locals" "[[I" ∈ ws_all := ws_t (i := 112) rfl (by decide +kernel)
theorem w_114 : Cond.laysFinal "SceneTree" "SceneTree" "worlds" "[[I" ∈ ws_all := ws_t (i := 114) rfl (by decide +kernel)
theorem w_116 : Cond.lays "SceneTree" "SceneTree" "worldsReady" "I" ∈ ws_all := ws_t (i := 116) rfl (by decide +kernel)
theorem w_118 : Cond.laysFinal "SceneTree" "SceneTree" "eye" "[I" ∈ ws_all := ws_t (i := 118) rfl (by decide +kernel)
theorem w_120 : Cond.laysFinal "SceneTree" "SceneTree" "view" "[I" ∈ ws_all := ws_t (i := 120) rfl (by decide +kernel)
theorem w_122 : Cond.laysFinal "SceneTree" "SceneTree" fo "[Z" ∈ ws_all := ws_t (i := 122) rfl (by decide +kernel)
theorem w_124 : Cond.laysFinal "SceneTree" "SceneTree" "depths" "[I" ∈ ws_all := ws_t (i := 124) rfl (by decide +kernel)
theorem w_126 : Cond.laysFinal "SceneTree" "SceneTree" "order" "[I" ∈ ws_all := ws_t (i := 126) rfl (by decide +kernel)
theorem w_128 : Cond.laysFinal "SceneTree" "SceneTree" "turner" "LSceneTree$Turner;" ∈ ws_all := ws_t (i := 128) rfl (by decide +kernel)
theorem w_131 : Cond.methodLink RL 26 yS_add ∈ ws_all := ws_t (i := 131) rfl (by decide +kernel)
theorem w_132 : Cond.instanceMethod yS_add ∈ ws_all := ws_t (i := 132) rfl (by decide +kernel)
theorem w_133 : Cond.selects RS yS_add yS_add ∈ ws_all := ws_t (i := 133) rfl (by decide +kernel)
theorem w_134 : Cond.code yS_add cS_add 4 (Option.some FieldType.int) ∈ ws_all := ws_t (i := 134) rfl (by decide +kernel)
theorem w_135 : Cond.methodLink RS 63 yS_isParentBefore ∈ ws_all := ws_t (i := 135) rfl (by decide +kernel)
theorem w_136 : Cond.static yS_isParentBefore ∈ ws_all := ws_t (i := 136) rfl (by decide +kernel)
theorem w_137 : Cond.code yS_isParentBefore cS_isParentBefore 2 (Option.some FieldType.boolean) ∈ ws_all := ws_t (i := 137) rfl (by decide +kernel)
theorem w_138 : Cond.methodLink RS 67 yS_put ∈ ws_all := ws_t (i := 138) rfl (by decide +kernel)
theorem w_139 : Cond.static yS_put ∈ ws_all := ws_t (i := 139) rfl (by decide +kernel)
theorem w_140 : Cond.code yS_put cS_put 5 (Option.none : Option FieldType) ∈ ws_all := ws_t (i := 140) rfl (by decide +kernel)
theorem w_141 : Cond.constant RS 71 (65536 : Int32) ∈ ws_all := ws_t (i := 141) rfl (by decide +kernel)
theorem w_142 : Cond.methodLink RS 72 yS_refreshLocal ∈ ws_all := ws_t (i := 142) rfl (by decide +kernel)
theorem w_144 : Cond.instanceMethod yS_refreshLocal ∈ ws_all := ws_t (i := 144) rfl (by decide +kernel)
theorem w_145 : Cond.code yS_refreshLocal cS_refreshLocal 8 (Option.none : Option FieldType) ∈ ws_all := ws_t (i := 145) rfl (by decide +kernel)
theorem w_146 : Cond.methodLink RL 30 yS_clear ∈ ws_all := ws_t (i := 146) rfl (by decide +kernel)
theorem w_147 : Cond.instanceMethod yS_clear ∈ ws_all := ws_t (i := 147) rfl (by decide +kernel)
theorem w_148 : Cond.selects RS yS_clear yS_clear ∈ ws_all := ws_t (i := 148) rfl (by decide +kernel)
theorem w_149 : Cond.code yS_clear cS_clear 1 (Option.none : Option FieldType) ∈ ws_all := ws_t (i := 149) rfl (by decide +kernel)
theorem w_150 : Cond.methodLink RL 34 yS_set ∈ ws_all := ws_t (i := 150) rfl (by decide +kernel)
theorem w_151 : Cond.instanceMethod yS_set ∈ ws_all := ws_t (i := 151) rfl (by decide +kernel)
theorem w_152 : Cond.selects RS yS_set yS_set ∈ ws_all := ws_t (i := 152) rfl (by decide +kernel)
theorem w_153 : Cond.code yS_set cS_set 6 (Option.some FieldType.boolean) ∈ ws_all := ws_t (i := 153) rfl (by decide +kernel)
theorem w_154 : Cond.methodLink RS 76 yS_isNode ∈ ws_all := ws_t (i := 154) rfl (by decide +kernel)
theorem w_156 : Cond.instanceMethod yS_isNode ∈ ws_all := ws_t (i := 156) rfl (by decide +kernel)
theorem w_157 : Cond.code yS_isNode cS_isNode 2 (Option.some FieldType.boolean) ∈ ws_all := ws_t (i := 157) rfl (by decide +kernel)
theorem w_158 : Cond.methodLink RS 80 yS_canBe ∈ ws_all := ws_t (i := 158) rfl (by decide +kernel)
theorem w_159 : Cond.static yS_canBe ∈ ws_all := ws_t (i := 159) rfl (by decide +kernel)
theorem w_160 : Cond.code yS_canBe cS_canBe 5 (Option.some FieldType.boolean) ∈ ws_all := ws_t (i := 160) rfl (by decide +kernel)
theorem w_161 : Cond.constant RS 113 (4194304 : Int32) ∈ ws_all := ws_t (i := 161) rfl (by decide +kernel)
theorem w_162 : Cond.constant RS 114 (1048576 : Int32) ∈ ws_all := ws_t (i := 162) rfl (by decide +kernel)
theorem w_163 : Cond.methodLink RS 115 yS_isWithin ∈ ws_all := ws_t (i := 163) rfl (by decide +kernel)
theorem w_164 : Cond.static yS_isWithin ∈ ws_all := ws_t (i := 164) rfl (by decide +kernel)
theorem w_165 : Cond.code yS_isWithin cS_isWithin 2 (Option.some FieldType.boolean) ∈ ws_all := ws_t (i := 165) rfl (by decide +kernel)
theorem w_166 : Cond.methodLink RS 84 yJ_min_III ∈ ws_all := ws_t (i := 166) rfl (by decide +kernel)
theorem w_167 : Cond.static yJ_min_III ∈ ws_all := ws_t (i := 167) rfl (by decide +kernel)
theorem w_168 : Cond.code yJ_min_III cJ_min_III 2 (Option.some FieldType.int) ∈ ws_all := ws_t (i := 168) rfl (by decide +kernel)
theorem w_169 : Cond.methodLink RL 39 yS_hang ∈ ws_all := ws_t (i := 169) rfl (by decide +kernel)
theorem w_170 : Cond.instanceMethod yS_hang ∈ ws_all := ws_t (i := 170) rfl (by decide +kernel)
theorem w_171 : Cond.selects RS yS_hang yS_hang ∈ ws_all := ws_t (i := 171) rfl (by decide +kernel)
theorem w_172 : Cond.code yS_hang cS_hang 3 (Option.some FieldType.boolean) ∈ ws_all := ws_t (i := 172) rfl (by decide +kernel)
theorem w_173 : Cond.methodLink RL 44 yS_hide ∈ ws_all := ws_t (i := 173) rfl (by decide +kernel)
theorem w_174 : Cond.instanceMethod yS_hide ∈ ws_all := ws_t (i := 174) rfl (by decide +kernel)
theorem w_175 : Cond.selects RS yS_hide yS_hide ∈ ws_all := ws_t (i := 175) rfl (by decide +kernel)
theorem w_176 : Cond.code yS_hide cS_hide 3 (Option.some FieldType.boolean) ∈ ws_all := ws_t (i := 176) rfl (by decide +kernel)
theorem w_177 : Cond.methodLink RL 49 yS_camera ∈ ws_all := ws_t (i := 177) rfl (by decide +kernel)
theorem w_178 : Cond.instanceMethod yS_camera ∈ ws_all := ws_t (i := 178) rfl (by decide +kernel)
theorem w_179 : Cond.selects RS yS_camera yS_camera ∈ ws_all := ws_t (i := 179) rfl (by decide +kernel)
theorem w_180 : Cond.code yS_camera cS_camera 5 (Option.some FieldType.boolean) ∈ ws_all := ws_t (i := 180) rfl (by decide +kernel)
theorem w_181 : Cond.methodLink RL 67 yS_seen ∈ ws_all := ws_t (i := 181) rfl (by decide +kernel)
theorem w_182 : Cond.instanceMethod yS_seen ∈ ws_all := ws_t (i := 182) rfl (by decide +kernel)
theorem w_183 : Cond.selects RS yS_seen yS_seen ∈ ws_all := ws_t (i := 183) rfl (by decide +kernel)
theorem w_184 : Cond.code yS_seen cS_seen 3 (Option.some FieldType.int) ∈ ws_all := ws_t (i := 184) rfl (by decide +kernel)
theorem w_185 : Cond.methodLink RS 103 yS_markOpen ∈ ws_all := ws_t (i := 185) rfl (by decide +kernel)
theorem w_187 : Cond.instanceMethod yS_markOpen ∈ ws_all := ws_t (i := 187) rfl (by decide +kernel)
theorem w_188 : Cond.code yS_markOpen cS_markOpen 3 (Option.none : Option FieldType) ∈ ws_all := ws_t (i := 188) rfl (by decide +kernel)
theorem w_189 : Cond.methodLink RS 106 yS_isSeen ∈ ws_all := ws_t (i := 189) rfl (by decide +kernel)
theorem w_191 : Cond.instanceMethod yS_isSeen ∈ ws_all := ws_t (i := 191) rfl (by decide +kernel)
theorem w_192 : Cond.code yS_isSeen cS_isSeen 2 (Option.some FieldType.boolean) ∈ ws_all := ws_t (i := 192) rfl (by decide +kernel)
theorem w_193 : Cond.methodLink RL 71 yS_inOrder ∈ ws_all := ws_t (i := 193) rfl (by decide +kernel)
theorem w_194 : Cond.instanceMethod yS_inOrder ∈ ws_all := ws_t (i := 194) rfl (by decide +kernel)
theorem w_195 : Cond.selects RS yS_inOrder yS_inOrder ∈ ws_all := ws_t (i := 195) rfl (by decide +kernel)
theorem w_196 : Cond.code yS_inOrder cS_inOrder 3 (Option.some FieldType.int) ∈ ws_all := ws_t (i := 196) rfl (by decide +kernel)
theorem w_197 : Cond.methodLink RS 109 yS_putInOrder ∈ ws_all := ws_t (i := 197) rfl (by decide +kernel)
theorem w_199 : Cond.instanceMethod yS_putInOrder ∈ ws_all := ws_t (i := 199) rfl (by decide +kernel)
theorem w_200 : Cond.code yS_putInOrder cS_putInOrder 3 (Option.some FieldType.int) ∈ ws_all := ws_t (i := 200) rfl (by decide +kernel)
theorem w_201 : Cond.methodLink RS 96 yS_readyWorlds ∈ ws_all := ws_t (i := 201) rfl (by decide +kernel)
theorem w_203 : Cond.instanceMethod yS_readyWorlds ∈ ws_all := ws_t (i := 203) rfl (by decide +kernel)
theorem w_204 : Cond.code yS_readyWorlds cS_readyWorlds 4 (Option.none : Option FieldType) ∈ ws_all := ws_t (i := 204) rfl (by decide +kernel)
theorem w_205 : Cond.methodLink RS 130 yS_multiply ∈ ws_all := ws_t (i := 205) rfl (by decide +kernel)
theorem w_206 : Cond.methodLink RS 134 ⟨"java/lang/System", "arraycopy", "(Ljava/lang/Object;ILjava/lang/Object;II)V"⟩ ∈ ws_all := ws_t (i := 206) rfl (by decide +kernel)
theorem w_207 : Cond.static ⟨"java/lang/System", "arraycopy", "(Ljava/lang/Object;ILjava/lang/Object;II)V"⟩ ∈ ws_all := ws_t (i := 207) rfl (by decide +kernel)
theorem w_208 : Cond.native ⟨"java/lang/System", "arraycopy", "(Ljava/lang/Object;ILjava/lang/Object;II)V"⟩ ∈ ws_all := ws_t (i := 208) rfl (by decide +kernel)
theorem w_209 : Cond.methodLink RS 140 yJ_max_III ∈ ws_all := ws_t (i := 209) rfl (by decide +kernel)
theorem w_210 : Cond.static yJ_max_III ∈ ws_all := ws_t (i := 210) rfl (by decide +kernel)
theorem w_211 : Cond.code yJ_max_III cJ_max_III 2 (Option.some FieldType.int) ∈ ws_all := ws_t (i := 211) rfl (by decide +kernel)
theorem w_212 : Cond.methodLink RS 143 yS_insert ∈ ws_all := ws_t (i := 212) rfl (by decide +kernel)
theorem w_214 : Cond.instanceMethod yS_insert ∈ ws_all := ws_t (i := 214) rfl (by decide +kernel)
theorem w_215 : Cond.code yS_insert cS_insert 4 (Option.none : Option FieldType) ∈ ws_all := ws_t (i := 215) rfl (by decide +kernel)
theorem w_216 : Cond.methodLink RS 147 yS_isDrawnBefore ∈ ws_all := ws_t (i := 216) rfl (by decide +kernel)
theorem w_218 : Cond.instanceMethod yS_isDrawnBefore ∈ ws_all := ws_t (i := 218) rfl (by decide +kernel)
theorem w_219 : Cond.code yS_isDrawnBefore cS_isDrawnBefore 3 (Option.some FieldType.boolean) ∈ ws_all := ws_t (i := 219) rfl (by decide +kernel)
theorem w_220 : Cond.methodLink RL 80 yS_count ∈ ws_all := ws_t (i := 220) rfl (by decide +kernel)
theorem w_221 : Cond.instanceMethod yS_count ∈ ws_all := ws_t (i := 221) rfl (by decide +kernel)
theorem w_222 : Cond.selects RS yS_count yS_count ∈ ws_all := ws_t (i := 222) rfl (by decide +kernel)
theorem w_223 : Cond.code yS_count cS_count 1 (Option.some FieldType.int) ∈ ws_all := ws_t (i := 223) rfl (by decide +kernel)
theorem w_224 : Cond.methodLink RL 54 yL_world ∈ ws_all := ws_t (i := 224) rfl (by decide +kernel)
theorem w_225 : Cond.static yL_world ∈ ws_all := ws_t (i := 225) rfl (by decide +kernel)
theorem w_226 : Cond.codeWith yL_world cL_world 6 (Option.some FieldType.int) [(0, 12, 15, 13)] ∈ ws_all := ws_t (i := 226) rfl (by decide +kernel)
theorem w_227 : Cond.classLink RL 13 "java/util/NoSuchElementException" ∈ ws_all := ws_t (i := 227) rfl (by decide +kernel)
theorem w_228 : Cond.methodLink RL 7 yS_world ∈ ws_all := ws_t (i := 228) rfl (by decide +kernel)
theorem w_229 : Cond.instanceMethod yS_world ∈ ws_all := ws_t (i := 229) rfl (by decide +kernel)
theorem w_230 : Cond.selects RS yS_world yS_world ∈ ws_all := ws_t (i := 230) rfl (by decide +kernel)
theorem w_231 : Cond.code yS_world cS_world 4 (Option.some FieldType.int) ∈ ws_all := ws_t (i := 231) rfl (by decide +kernel)
theorem w_232 : Cond.methodLink RS 90 yS_isCell ∈ ws_all := ws_t (i := 232) rfl (by decide +kernel)
theorem w_233 : Cond.static yS_isCell ∈ ws_all := ws_t (i := 233) rfl (by decide +kernel)
theorem w_234 : Cond.code yS_isCell cS_isCell 2 (Option.some FieldType.boolean) ∈ ws_all := ws_t (i := 234) rfl (by decide +kernel)
theorem w_235 : Cond.classLink RS 93 "java/util/NoSuchElementException" ∈ ws_all := ws_t (i := 235) rfl (by decide +kernel)
theorem w_236 : Cond.instantiable "java/util/NoSuchElementException" 6 ∈ ws_all := ws_t (i := 236) rfl (by decide +kernel)
theorem w_274 : Cond.methodLink RS 95 ⟨"java/util/NoSuchElementException", "<init>", "()V"⟩ ∈ ws_all := ws_t (i := 274) rfl (by decide +kernel)
theorem w_275 : Cond.instanceMethod ⟨"java/util/NoSuchElementException", "<init>", "()V"⟩ ∈ ws_all := ws_t (i := 275) rfl (by decide +kernel)
theorem w_276 : Cond.code ⟨"java/util/NoSuchElementException", "<init>", "()V"⟩ prog_10_method_1_code 1 (Option.none : Option FieldType) ∈ ws_all := ws_t (i := 276) rfl (by decide +kernel)
theorem w_296 : Cond.methodLink RL 64 yL_model ∈ ws_all := ws_t (i := 296) rfl (by decide +kernel)
theorem w_297 : Cond.static yL_model ∈ ws_all := ws_t (i := 297) rfl (by decide +kernel)
theorem w_298 : Cond.codeWith yL_model cL_model 6 (Option.some FieldType.int) [(0, 12, 15, 13)] ∈ ws_all := ws_t (i := 298) rfl (by decide +kernel)
theorem w_299 : Cond.methodLink RL 15 yS_model ∈ ws_all := ws_t (i := 299) rfl (by decide +kernel)
theorem w_300 : Cond.instanceMethod yS_model ∈ ws_all := ws_t (i := 300) rfl (by decide +kernel)
theorem w_301 : Cond.selects RS yS_model yS_model ∈ ws_all := ws_t (i := 301) rfl (by decide +kernel)
theorem w_302 : Cond.code yS_model cS_model 4 (Option.some FieldType.int) ∈ ws_all := ws_t (i := 302) rfl (by decide +kernel)
theorem w_303 : Cond.methodLink RL 76 yL_about ∈ ws_all := ws_t (i := 303) rfl (by decide +kernel)
theorem w_304 : Cond.static yL_about ∈ ws_all := ws_t (i := 304) rfl (by decide +kernel)
theorem w_305 : Cond.codeWith yL_about cL_about 5 (Option.some FieldType.int) [(0, 10, 13, 13)] ∈ ws_all := ws_t (i := 305) rfl (by decide +kernel)
theorem w_306 : Cond.methodLink RL 18 yS_about ∈ ws_all := ws_t (i := 306) rfl (by decide +kernel)
theorem w_307 : Cond.instanceMethod yS_about ∈ ws_all := ws_t (i := 307) rfl (by decide +kernel)
theorem w_308 : Cond.selects RS yS_about yS_about ∈ ws_all := ws_t (i := 308) rfl (by decide +kernel)
theorem w_309 : Cond.code yS_about cS_about 3 (Option.some FieldType.int) ∈ ws_all := ws_t (i := 309) rfl (by decide +kernel)
theorem w_310 : Cond.classLink RL 23 "SceneTreeModel" ∈ ws_all := ws_t (i := 310) rfl (by decide +kernel)
theorem w_311 : Cond.instantiable RM 14 ∈ ws_all := ws_t (i := 311) rfl (by decide +kernel)
theorem w_312 : Cond.methodLink RL 25 yM_init ∈ ws_all := ws_t (i := 312) rfl (by decide +kernel)
theorem w_313 : Cond.instanceMethod yM_init ∈ ws_all := ws_t (i := 313) rfl (by decide +kernel)
theorem w_314 : Cond.code yM_init cM_init 1 (Option.none : Option FieldType) ∈ ws_all := ws_t (i := 314) rfl (by decide +kernel)
theorem w_315 : Cond.methodLink RM 1 ⟨"java/lang/Object", "<init>", "()V"⟩ ∈ ws_all := ws_t (i := 315) rfl (by decide +kernel)
theorem w_316 : Cond.fieldLink RM 48 "SceneTreeModel" "thrown" "I" ∈ ws_all := ws_t (i := 316) rfl (by decide +kernel)
theorem w_317 : Cond.fieldLink RM 52 "SceneTreeModel" "many" "I" ∈ ws_all := ws_t (i := 317) rfl (by decide +kernel)
theorem w_318 : Cond.fieldLink RM 7 "SceneTreeModel" "parents" "[I" ∈ ws_all := ws_t (i := 318) rfl (by decide +kernel)
theorem w_319 : Cond.fieldLink RM 13 "SceneTreeModel" "kinds" "[I" ∈ ws_all := ws_t (i := 319) rfl (by decide +kernel)
theorem w_320 : Cond.fieldLink RM 16 "SceneTreeModel" "hidden" "[Z" ∈ ws_all := ws_t (i := 320) rfl (by decide +kernel)
theorem w_321 : Cond.fieldLink RM 20 "SceneTreeModel" "numbers" "[I" ∈ ws_all := ws_t (i := 321) rfl (by decide +kernel)
theorem w_322 : Cond.fieldLink RM 23 "SceneTreeModel" "way" "[I" ∈ ws_all := ws_t (i := 322) rfl (by decide +kernel)
theorem w_323 : Cond.fieldLink RM 26 "SceneTreeModel" "depths" "[J" ∈ ws_all := ws_t (i := 323) rfl (by decide +kernel)
theorem w_324 : Cond.fieldLink RM 30 "SceneTreeModel" "made" "[J" ∈ ws_all := ws_t (i := 324) rfl (by decide +kernel)
theorem w_325 : Cond.fieldLink RM 33 "SceneTreeModel" "left" "[J" ∈ ws_all := ws_t (i := 325) rfl (by decide +kernel)
theorem w_326 : Cond.fieldLink RM 36 "SceneTreeModel" "right" "[J" ∈ ws_all := ws_t (i := 326) rfl (by decide +kernel)
theorem w_327 : Cond.fieldLink RM 39 "SceneTreeModel" "part" "[J" ∈ ws_all := ws_t (i := 327) rfl (by decide +kernel)
theorem w_328 : Cond.fieldLink RM 42 "SceneTreeModel" "own" "[J" ∈ ws_all := ws_t (i := 328) rfl (by decide +kernel)
theorem w_329 : Cond.fieldLink RM 45 "SceneTreeModel" "above" "[J" ∈ ws_all := ws_t (i := 329) rfl (by decide +kernel)
theorem w_330 : Cond.lays "SceneTreeModel" "SceneTreeModel" "thrown" "I" ∈ ws_all := ws_t (i := 330) rfl (by decide +kernel)
theorem w_332 : Cond.lays "SceneTreeModel" "SceneTreeModel" "many" "I" ∈ ws_all := ws_t (i := 332) rfl (by decide +kernel)
theorem w_334 : Cond.laysFinal "SceneTreeModel" "SceneTreeModel" "parents" "[I" ∈ ws_all := ws_t (i := 334) rfl (by decide +kernel)
theorem w_336 : Cond.laysFinal "SceneTreeModel" "SceneTreeModel" "kinds" "[I" ∈ ws_all := ws_t (i := 336) rfl (by decide +kernel)
theorem w_338 : Cond.laysFinal "SceneTreeModel" "SceneTreeModel" "hidden" "[Z" ∈ ws_all := ws_t (i := 338) rfl (by decide +kernel)
theorem w_340 : Cond.laysFinal "SceneTreeModel" "SceneTreeModel" "numbers" "[I" ∈ ws_all := ws_t (i := 340) rfl (by decide +kernel)
theorem w_342 : Cond.laysFinal "SceneTreeModel" "SceneTreeModel" "way" "[I" ∈ ws_all := ws_t (i := 342) rfl (by decide +kernel)
theorem w_344 : Cond.laysFinal "SceneTreeModel" "SceneTreeModel" "depths" "[J" ∈ ws_all := ws_t (i := 344) rfl (by decide +kernel)
theorem w_346 : Cond.laysFinal "SceneTreeModel" "SceneTreeModel" "made" "[J" ∈ ws_all := ws_t (i := 346) rfl (by decide +kernel)
theorem w_348 : Cond.laysFinal "SceneTreeModel" "SceneTreeModel" "left" "[J" ∈ ws_all := ws_t (i := 348) rfl (by decide +kernel)
theorem w_350 : Cond.laysFinal "SceneTreeModel" "SceneTreeModel" "right" "[J" ∈ ws_all := ws_t (i := 350) rfl (by decide +kernel)
theorem w_352 : Cond.laysFinal "SceneTreeModel" "SceneTreeModel" "part" "[J" ∈ ws_all := ws_t (i := 352) rfl (by decide +kernel)
theorem w_354 : Cond.laysFinal "SceneTreeModel" "SceneTreeModel" "own" "[J" ∈ ws_all := ws_t (i := 354) rfl (by decide +kernel)
theorem w_356 : Cond.laysFinal "SceneTreeModel" "SceneTreeModel" "above" "[J" ∈ ws_all := ws_t (i := 356) rfl (by decide +kernel)
theorem w_359 : Cond.arrayClass FieldType.long ∈ ws_all := ws_t (i := 359) rfl (by decide +kernel)
theorem w_360 : Cond.methodLink RL 60 yM_thrown ∈ ws_all := ws_t (i := 360) rfl (by decide +kernel)
theorem w_361 : Cond.instanceMethod yM_thrown ∈ ws_all := ws_t (i := 361) rfl (by decide +kernel)
theorem w_362 : Cond.selects RM yM_thrown yM_thrown ∈ ws_all := ws_t (i := 362) rfl (by decide +kernel)
theorem w_363 : Cond.code yM_thrown cM_thrown 1 (Option.some FieldType.int) ∈ ws_all := ws_t (i := 363) rfl (by decide +kernel)
theorem w_364 : Cond.methodLink RL 29 yM_add ∈ ws_all := ws_t (i := 364) rfl (by decide +kernel)
theorem w_365 : Cond.instanceMethod yM_add ∈ ws_all := ws_t (i := 365) rfl (by decide +kernel)
theorem w_366 : Cond.selects RM yM_add yM_add ∈ ws_all := ws_t (i := 366) rfl (by decide +kernel)
theorem w_367 : Cond.code yM_add cM_add 4 (Option.some FieldType.int) ∈ ws_all := ws_t (i := 367) rfl (by decide +kernel)
theorem w_368 : Cond.constant RM 55 (65536 : Int32) ∈ ws_all := ws_t (i := 368) rfl (by decide +kernel)
theorem w_369 : Cond.methodLink RL 33 yM_clear ∈ ws_all := ws_t (i := 369) rfl (by decide +kernel)
theorem w_370 : Cond.instanceMethod yM_clear ∈ ws_all := ws_t (i := 370) rfl (by decide +kernel)
theorem w_371 : Cond.selects RM yM_clear yM_clear ∈ ws_all := ws_t (i := 371) rfl (by decide +kernel)
theorem w_372 : Cond.code yM_clear cM_clear 1 (Option.none : Option FieldType) ∈ ws_all := ws_t (i := 372) rfl (by decide +kernel)
theorem w_373 : Cond.methodLink RL 38 yM_set ∈ ws_all := ws_t (i := 373) rfl (by decide +kernel)
theorem w_374 : Cond.instanceMethod yM_set ∈ ws_all := ws_t (i := 374) rfl (by decide +kernel)
theorem w_375 : Cond.selects RM yM_set yM_set ∈ ws_all := ws_t (i := 375) rfl (by decide +kernel)
theorem w_376 : Cond.code yM_set cM_set 6 (Option.some FieldType.boolean) ∈ ws_all := ws_t (i := 376) rfl (by decide +kernel)
theorem w_377 : Cond.methodLink RM 62 yM_isNode ∈ ws_all := ws_t (i := 377) rfl (by decide +kernel)
theorem w_379 : Cond.instanceMethod yM_isNode ∈ ws_all := ws_t (i := 379) rfl (by decide +kernel)
theorem w_380 : Cond.code yM_isNode cM_isNode 2 (Option.some FieldType.boolean) ∈ ws_all := ws_t (i := 380) rfl (by decide +kernel)
theorem w_381 : Cond.methodLink RM 66 yM_lays ∈ ws_all := ws_t (i := 381) rfl (by decide +kernel)
theorem w_383 : Cond.instanceMethod yM_lays ∈ ws_all := ws_t (i := 383) rfl (by decide +kernel)
theorem w_384 : Cond.code yM_lays cM_lays 6 (Option.some FieldType.boolean) ∈ ws_all := ws_t (i := 384) rfl (by decide +kernel)
theorem w_385 : Cond.methodLink RM 58 yM_can ∈ ws_all := ws_t (i := 385) rfl (by decide +kernel)
theorem w_386 : Cond.static yM_can ∈ ws_all := ws_t (i := 386) rfl (by decide +kernel)
theorem w_387 : Cond.code yM_can cM_can 3 (Option.some FieldType.boolean) ∈ ws_all := ws_t (i := 387) rfl (by decide +kernel)
theorem w_388 : Cond.constant RM 56 (4194304 : Int32) ∈ ws_all := ws_t (i := 388) rfl (by decide +kernel)
theorem w_389 : Cond.constant RM 57 (1048576 : Int32) ∈ ws_all := ws_t (i := 389) rfl (by decide +kernel)
theorem w_390 : Cond.methodLink RL 43 yM_hang ∈ ws_all := ws_t (i := 390) rfl (by decide +kernel)
theorem w_391 : Cond.instanceMethod yM_hang ∈ ws_all := ws_t (i := 391) rfl (by decide +kernel)
theorem w_392 : Cond.selects RM yM_hang yM_hang ∈ ws_all := ws_t (i := 392) rfl (by decide +kernel)
theorem w_393 : Cond.code yM_hang cM_hang 3 (Option.some FieldType.boolean) ∈ ws_all := ws_t (i := 393) rfl (by decide +kernel)
theorem w_394 : Cond.methodLink RL 48 yM_hide ∈ ws_all := ws_t (i := 394) rfl (by decide +kernel)
theorem w_395 : Cond.instanceMethod yM_hide ∈ ws_all := ws_t (i := 395) rfl (by decide +kernel)
theorem w_396 : Cond.selects RM yM_hide yM_hide ∈ ws_all := ws_t (i := 396) rfl (by decide +kernel)
theorem w_397 : Cond.code yM_hide cM_hide 3 (Option.some FieldType.boolean) ∈ ws_all := ws_t (i := 397) rfl (by decide +kernel)
theorem w_398 : Cond.methodLink RL 53 yM_camera ∈ ws_all := ws_t (i := 398) rfl (by decide +kernel)
theorem w_399 : Cond.instanceMethod yM_camera ∈ ws_all := ws_t (i := 399) rfl (by decide +kernel)
theorem w_400 : Cond.selects RM yM_camera yM_camera ∈ ws_all := ws_t (i := 400) rfl (by decide +kernel)
theorem w_401 : Cond.code yM_camera cM_camera 5 (Option.some FieldType.boolean) ∈ ws_all := ws_t (i := 401) rfl (by decide +kernel)
theorem w_402 : Cond.methodLink RL 59 yM_world ∈ ws_all := ws_t (i := 402) rfl (by decide +kernel)
theorem w_403 : Cond.instanceMethod yM_world ∈ ws_all := ws_t (i := 403) rfl (by decide +kernel)
theorem w_404 : Cond.selects RM yM_world yM_world ∈ ws_all := ws_t (i := 404) rfl (by decide +kernel)
theorem w_405 : Cond.code yM_world cM_world 4 (Option.some FieldType.int) ∈ ws_all := ws_t (i := 405) rfl (by decide +kernel)
theorem w_406 : Cond.methodLink RM 118 yM_isPlace ∈ ws_all := ws_t (i := 406) rfl (by decide +kernel)
theorem w_408 : Cond.instanceMethod yM_isPlace ∈ ws_all := ws_t (i := 408) rfl (by decide +kernel)
theorem w_409 : Cond.code yM_isPlace cM_isPlace 4 (Option.some FieldType.boolean) ∈ ws_all := ws_t (i := 409) rfl (by decide +kernel)
theorem w_410 : Cond.methodLink RM 115 yM_makesWorld ∈ ws_all := ws_t (i := 410) rfl (by decide +kernel)
theorem w_412 : Cond.instanceMethod yM_makesWorld ∈ ws_all := ws_t (i := 412) rfl (by decide +kernel)
theorem w_413 : Cond.code yM_makesWorld cM_makesWorld 4 (Option.none : Option FieldType) ∈ ws_all := ws_t (i := 413) rfl (by decide +kernel)
theorem w_414 : Cond.methodLink RM 112 yM_makesLocal ∈ ws_all := ws_t (i := 414) rfl (by decide +kernel)
theorem w_416 : Cond.instanceMethod yM_makesLocal ∈ ws_all := ws_t (i := 416) rfl (by decide +kernel)
theorem w_417 : Cond.code yM_makesLocal cM_makesLocal 4 (Option.none : Option FieldType) ∈ ws_all := ws_t (i := 417) rfl (by decide +kernel)
theorem w_418 : Cond.methodLink RM 108 yM_turn ∈ ws_all := ws_t (i := 418) rfl (by decide +kernel)
theorem w_420 : Cond.instanceMethod yM_turn ∈ ws_all := ws_t (i := 420) rfl (by decide +kernel)
theorem w_421 : Cond.code yM_turn cM_turn 2 (Option.none : Option FieldType) ∈ ws_all := ws_t (i := 421) rfl (by decide +kernel)
theorem w_422 : Cond.methodLink RM 97 yM_axis ∈ ws_all := ws_t (i := 422) rfl (by decide +kernel)
theorem w_423 : Cond.static yM_axis ∈ ws_all := ws_t (i := 423) rfl (by decide +kernel)
theorem w_424 : Cond.code yM_axis cM_axis 5 (Option.none : Option FieldType) ∈ ws_all := ws_t (i := 424) rfl (by decide +kernel)
theorem w_425 : Cond.constantLong RM 92 (65536 : Int64) ∈ ws_all := ws_t (i := 425) rfl (by decide +kernel)
theorem w_426 : Cond.methodLink RM 94 yM_cos ∈ ws_all := ws_t (i := 426) rfl (by decide +kernel)
theorem w_427 : Cond.static yM_cos ∈ ws_all := ws_t (i := 427) rfl (by decide +kernel)
theorem w_428 : Cond.code yM_cos cM_cos 1 (Option.some FieldType.long) ∈ ws_all := ws_t (i := 428) rfl (by decide +kernel)
theorem w_429 : Cond.methodLink RM 80 yM_sin ∈ ws_all := ws_t (i := 429) rfl (by decide +kernel)
theorem w_430 : Cond.static yM_sin ∈ ws_all := ws_t (i := 430) rfl (by decide +kernel)
theorem w_431 : Cond.code yM_sin cM_sin 6 (Option.some FieldType.long) ∈ ws_all := ws_t (i := 431) rfl (by decide +kernel)
theorem w_432 : Cond.constantLong RM 74 (1048576 : Int64) ∈ ws_all := ws_t (i := 432) rfl (by decide +kernel)
theorem w_433 : Cond.constantLong RM 76 (20971520 : Int64) ∈ ws_all := ws_t (i := 433) rfl (by decide +kernel)
theorem w_434 : Cond.constantLong RM 78 (4 : Int64) ∈ ws_all := ws_t (i := 434) rfl (by decide +kernel)
theorem w_435 : Cond.methodLink RM 101 yM_times ∈ ws_all := ws_t (i := 435) rfl (by decide +kernel)
theorem w_437 : Cond.instanceMethod yM_times ∈ ws_all := ws_t (i := 437) rfl (by decide +kernel)
theorem w_438 : Cond.code yM_times cM_times 6 (Option.none : Option FieldType) ∈ ws_all := ws_t (i := 438) rfl (by decide +kernel)
theorem w_439 : Cond.methodLink RM 84 yM_mul ∈ ws_all := ws_t (i := 439) rfl (by decide +kernel)
theorem w_440 : Cond.static yM_mul ∈ ws_all := ws_t (i := 440) rfl (by decide +kernel)
theorem w_441 : Cond.code yM_mul cM_mul 4 (Option.some FieldType.long) ∈ ws_all := ws_t (i := 441) rfl (by decide +kernel)
theorem w_442 : Cond.methodLink RM 88 yM_bound ∈ ws_all := ws_t (i := 442) rfl (by decide +kernel)
theorem w_443 : Cond.static yM_bound ∈ ws_all := ws_t (i := 443) rfl (by decide +kernel)
theorem w_444 : Cond.code yM_bound cM_bound 2 (Option.some FieldType.long) ∈ ws_all := ws_t (i := 444) rfl (by decide +kernel)
theorem w_445 : Cond.constantLong RM 70 (-16777216 : Int64) ∈ ws_all := ws_t (i := 445) rfl (by decide +kernel)
theorem w_446 : Cond.constantLong RM 72 (16777216 : Int64) ∈ ws_all := ws_t (i := 446) rfl (by decide +kernel)
theorem w_447 : Cond.methodLink RM 104 yM_copy ∈ ws_all := ws_t (i := 447) rfl (by decide +kernel)
theorem w_448 : Cond.static yM_copy ∈ ws_all := ws_t (i := 448) rfl (by decide +kernel)
theorem w_449 : Cond.code yM_copy cM_copy 3 (Option.none : Option FieldType) ∈ ws_all := ws_t (i := 449) rfl (by decide +kernel)
theorem w_450 : Cond.methodLink RL 66 yM_model ∈ ws_all := ws_t (i := 450) rfl (by decide +kernel)
theorem w_451 : Cond.instanceMethod yM_model ∈ ws_all := ws_t (i := 451) rfl (by decide +kernel)
theorem w_452 : Cond.selects RM yM_model yM_model ∈ ws_all := ws_t (i := 452) rfl (by decide +kernel)
theorem w_453 : Cond.code yM_model cM_model 4 (Option.some FieldType.int) ∈ ws_all := ws_t (i := 453) rfl (by decide +kernel)
theorem w_454 : Cond.methodLink RM 122 yM_makesModel ∈ ws_all := ws_t (i := 454) rfl (by decide +kernel)
theorem w_456 : Cond.instanceMethod yM_makesModel ∈ ws_all := ws_t (i := 456) rfl (by decide +kernel)
theorem w_457 : Cond.code yM_makesModel cM_makesModel 6 (Option.none : Option FieldType) ∈ ws_all := ws_t (i := 457) rfl (by decide +kernel)
theorem w_458 : Cond.methodLink RL 70 yM_seen ∈ ws_all := ws_t (i := 458) rfl (by decide +kernel)
theorem w_459 : Cond.instanceMethod yM_seen ∈ ws_all := ws_t (i := 459) rfl (by decide +kernel)
theorem w_460 : Cond.selects RM yM_seen yM_seen ∈ ws_all := ws_t (i := 460) rfl (by decide +kernel)
theorem w_461 : Cond.code yM_seen cM_seen 3 (Option.some FieldType.int) ∈ ws_all := ws_t (i := 461) rfl (by decide +kernel)
theorem w_462 : Cond.methodLink RM 125 yM_isSeen ∈ ws_all := ws_t (i := 462) rfl (by decide +kernel)
theorem w_464 : Cond.instanceMethod yM_isSeen ∈ ws_all := ws_t (i := 464) rfl (by decide +kernel)
theorem w_465 : Cond.code yM_isSeen cM_isSeen 4 (Option.some FieldType.boolean) ∈ ws_all := ws_t (i := 465) rfl (by decide +kernel)
theorem w_466 : Cond.methodLink RL 75 yM_inOrder ∈ ws_all := ws_t (i := 466) rfl (by decide +kernel)
theorem w_467 : Cond.instanceMethod yM_inOrder ∈ ws_all := ws_t (i := 467) rfl (by decide +kernel)
theorem w_468 : Cond.selects RM yM_inOrder yM_inOrder ∈ ws_all := ws_t (i := 468) rfl (by decide +kernel)
theorem w_469 : Cond.code yM_inOrder cM_inOrder 6 (Option.some FieldType.int) ∈ ws_all := ws_t (i := 469) rfl (by decide +kernel)
theorem w_470 : Cond.methodLink RM 128 yM_isBefore ∈ ws_all := ws_t (i := 470) rfl (by decide +kernel)
theorem w_472 : Cond.instanceMethod yM_isBefore ∈ ws_all := ws_t (i := 472) rfl (by decide +kernel)
theorem w_473 : Cond.code yM_isBefore cM_isBefore 3 (Option.some FieldType.boolean) ∈ ws_all := ws_t (i := 473) rfl (by decide +kernel)
theorem w_474 : Cond.methodLink RL 79 yM_about ∈ ws_all := ws_t (i := 474) rfl (by decide +kernel)
theorem w_475 : Cond.instanceMethod yM_about ∈ ws_all := ws_t (i := 475) rfl (by decide +kernel)
theorem w_476 : Cond.selects RM yM_about yM_about ∈ ws_all := ws_t (i := 476) rfl (by decide +kernel)
theorem w_477 : Cond.code yM_about cM_about 3 (Option.some FieldType.int) ∈ ws_all := ws_t (i := 477) rfl (by decide +kernel)
theorem w_478 : Cond.methodLink RL 83 yM_count ∈ ws_all := ws_t (i := 478) rfl (by decide +kernel)
theorem w_479 : Cond.instanceMethod yM_count ∈ ws_all := ws_t (i := 479) rfl (by decide +kernel)
theorem w_480 : Cond.selects RM yM_count yM_count ∈ ws_all := ws_t (i := 480) rfl (by decide +kernel)
theorem w_481 : Cond.code yM_count cM_count 1 (Option.some FieldType.int) ∈ ws_all := ws_t (i := 481) rfl (by decide +kernel)
theorem ws_sel_S_refreshView : Cond.selects RS yS_refreshView yS_refreshView ∈ ws_all := ws_s (y := yS_refreshView) (n := 14) (List.mem_of_getElem? (i := 0) rfl) (by decide +kernel)
theorem ws_sel_T_turnOf : Cond.selects RT yT_turnOf yT_turnOf ∈ ws_all := ws_s (y := yT_turnOf) (n := 5) (List.mem_of_getElem? (i := 1) rfl) (by decide +kernel)
theorem ws_sel_S_refreshLocal : Cond.selects RS yS_refreshLocal yS_refreshLocal ∈ ws_all := ws_s (y := yS_refreshLocal) (n := 14) (List.mem_of_getElem? (i := 2) rfl) (by decide +kernel)
theorem ws_sel_S_isNode : Cond.selects RS yS_isNode yS_isNode ∈ ws_all := ws_s (y := yS_isNode) (n := 14) (List.mem_of_getElem? (i := 3) rfl) (by decide +kernel)
theorem ws_sel_S_markOpen : Cond.selects RS yS_markOpen yS_markOpen ∈ ws_all := ws_s (y := yS_markOpen) (n := 14) (List.mem_of_getElem? (i := 4) rfl) (by decide +kernel)
theorem ws_sel_S_isSeen : Cond.selects RS yS_isSeen yS_isSeen ∈ ws_all := ws_s (y := yS_isSeen) (n := 14) (List.mem_of_getElem? (i := 5) rfl) (by decide +kernel)
theorem ws_sel_S_putInOrder : Cond.selects RS yS_putInOrder yS_putInOrder ∈ ws_all := ws_s (y := yS_putInOrder) (n := 14) (List.mem_of_getElem? (i := 6) rfl) (by decide +kernel)
theorem ws_sel_S_readyWorlds : Cond.selects RS yS_readyWorlds yS_readyWorlds ∈ ws_all := ws_s (y := yS_readyWorlds) (n := 14) (List.mem_of_getElem? (i := 7) rfl) (by decide +kernel)
theorem ws_sel_S_insert : Cond.selects RS yS_insert yS_insert ∈ ws_all := ws_s (y := yS_insert) (n := 14) (List.mem_of_getElem? (i := 8) rfl) (by decide +kernel)
theorem ws_sel_S_isDrawnBefore : Cond.selects RS yS_isDrawnBefore yS_isDrawnBefore ∈ ws_all := ws_s (y := yS_isDrawnBefore) (n := 14) (List.mem_of_getElem? (i := 9) rfl) (by decide +kernel)
theorem ws_sel_M_isNode : Cond.selects RM yM_isNode yM_isNode ∈ ws_all := ws_s (y := yM_isNode) (n := 14) (List.mem_of_getElem? (i := 11) rfl) (by decide +kernel)
theorem ws_sel_M_lays : Cond.selects RM yM_lays yM_lays ∈ ws_all := ws_s (y := yM_lays) (n := 14) (List.mem_of_getElem? (i := 12) rfl) (by decide +kernel)
theorem ws_sel_M_isPlace : Cond.selects RM yM_isPlace yM_isPlace ∈ ws_all := ws_s (y := yM_isPlace) (n := 14) (List.mem_of_getElem? (i := 13) rfl) (by decide +kernel)
theorem ws_sel_M_makesWorld : Cond.selects RM yM_makesWorld yM_makesWorld ∈ ws_all := ws_s (y := yM_makesWorld) (n := 14) (List.mem_of_getElem? (i := 14) rfl) (by decide +kernel)
theorem ws_sel_M_makesLocal : Cond.selects RM yM_makesLocal yM_makesLocal ∈ ws_all := ws_s (y := yM_makesLocal) (n := 14) (List.mem_of_getElem? (i := 15) rfl) (by decide +kernel)
theorem ws_sel_M_turn : Cond.selects RM yM_turn yM_turn ∈ ws_all := ws_s (y := yM_turn) (n := 14) (List.mem_of_getElem? (i := 16) rfl) (by decide +kernel)
theorem ws_sel_M_times : Cond.selects RM yM_times yM_times ∈ ws_all := ws_s (y := yM_times) (n := 14) (List.mem_of_getElem? (i := 17) rfl) (by decide +kernel)
theorem ws_sel_M_makesModel : Cond.selects RM yM_makesModel yM_makesModel ∈ ws_all := ws_s (y := yM_makesModel) (n := 14) (List.mem_of_getElem? (i := 18) rfl) (by decide +kernel)
theorem ws_sel_M_isSeen : Cond.selects RM yM_isSeen yM_isSeen ∈ ws_all := ws_s (y := yM_isSeen) (n := 14) (List.mem_of_getElem? (i := 19) rfl) (by decide +kernel)
theorem ws_sel_M_isBefore : Cond.selects RM yM_isBefore yM_isBefore ∈ ws_all := ws_s (y := yM_isBefore) (n := 14) (List.mem_of_getElem? (i := 20) rfl) (by decide +kernel)
theorem inT : ∀ w ∈ u_ws RT TT 5, w ∈ ws_all := fun w h => ws_in ((by decide +kernel : ∀ w ∈ u_ws RT TT 5, w ∈ lw_tbl) w h) ((by decide +kernel : ∀ w ∈ u_ws RT TT 5, goodWord w = true) w h)
theorem inS : ∀ w ∈ u_ws RS TS 14, w ∈ ws_all := fun w h => ws_in ((by decide +kernel : ∀ w ∈ u_ws RS TS 14, w ∈ lw_tbl) w h) ((by decide +kernel : ∀ w ∈ u_ws RS TS 14, goodWord w = true) w h)
theorem inM : ∀ w ∈ u_ws RM TM 14, w ∈ ws_all := fun w h => ws_in ((by decide +kernel : ∀ w ∈ u_ws RM TM 14, w ∈ lw_tbl) w h) ((by decide +kernel : ∀ w ∈ u_ws RM TM 14, goodWord w = true) w h)
theorem hd_S_init : yS_init.cls ≠ "java/lang/invoke/MethodHandle" ∧ yS_init.cls ≠ "java/lang/invoke/VarHandle" ∧ (parseMethodDescriptor yS_init.desc).map (fun d => d.parameters.length) = some 0 := by decide +kernel
theorem hd_T_init : yT_init.cls ≠ "java/lang/invoke/MethodHandle" ∧ yT_init.cls ≠ "java/lang/invoke/VarHandle" ∧ (parseMethodDescriptor yT_init.desc).map (fun d => d.parameters.length) = some 0 := by decide +kernel
theorem hd_S_refreshView : yS_refreshView.cls ≠ "java/lang/invoke/MethodHandle" ∧ yS_refreshView.cls ≠ "java/lang/invoke/VarHandle" ∧ (parseMethodDescriptor yS_refreshView.desc).map (fun d => d.parameters.length) = some 0 := by decide +kernel
theorem hd_T_turnOf : yT_turnOf.cls ≠ "java/lang/invoke/MethodHandle" ∧ yT_turnOf.cls ≠ "java/lang/invoke/VarHandle" ∧ (parseMethodDescriptor yT_turnOf.desc).map (fun d => d.parameters.length) = some 1 := by decide +kernel
theorem hd_T_spin : yT_spin.cls ≠ "java/lang/invoke/MethodHandle" ∧ yT_spin.cls ≠ "java/lang/invoke/VarHandle" ∧ (parseMethodDescriptor yT_spin.desc).map (fun d => d.parameters.length) = some 4 := by decide +kernel
theorem hd_S_sine : yS_sine.cls ≠ "java/lang/invoke/MethodHandle" ∧ yS_sine.cls ≠ "java/lang/invoke/VarHandle" ∧ (parseMethodDescriptor yS_sine.desc).map (fun d => d.parameters.length) = some 1 := by decide +kernel
theorem hd_J_floorMod : yJ_floorMod.cls ≠ "java/lang/invoke/MethodHandle" ∧ yJ_floorMod.cls ≠ "java/lang/invoke/VarHandle" ∧ (parseMethodDescriptor yJ_floorMod.desc).map (fun d => d.parameters.length) = some 2 := by decide +kernel
theorem hd_J_floorDiv : yJ_floorDiv.cls ≠ "java/lang/invoke/MethodHandle" ∧ yJ_floorDiv.cls ≠ "java/lang/invoke/VarHandle" ∧ (parseMethodDescriptor yJ_floorDiv.desc).map (fun d => d.parameters.length) = some 2 := by decide +kernel
theorem hd_S_multiply : yS_multiply.cls ≠ "java/lang/invoke/MethodHandle" ∧ yS_multiply.cls ≠ "java/lang/invoke/VarHandle" ∧ (parseMethodDescriptor yS_multiply.desc).map (fun d => d.parameters.length) = some 3 := by decide +kernel
theorem hd_S_productAt : yS_productAt.cls ≠ "java/lang/invoke/MethodHandle" ∧ yS_productAt.cls ≠ "java/lang/invoke/VarHandle" ∧ (parseMethodDescriptor yS_productAt.desc).map (fun d => d.parameters.length) = some 4 := by decide +kernel
theorem hd_S_mul : yS_mul.cls ≠ "java/lang/invoke/MethodHandle" ∧ yS_mul.cls ≠ "java/lang/invoke/VarHandle" ∧ (parseMethodDescriptor yS_mul.desc).map (fun d => d.parameters.length) = some 2 := by decide +kernel
theorem hd_S_bound : yS_bound.cls ≠ "java/lang/invoke/MethodHandle" ∧ yS_bound.cls ≠ "java/lang/invoke/VarHandle" ∧ (parseMethodDescriptor yS_bound.desc).map (fun d => d.parameters.length) = some 1 := by decide +kernel
theorem hd_J_min_JJJ : yJ_min_JJJ.cls ≠ "java/lang/invoke/MethodHandle" ∧ yJ_min_JJJ.cls ≠ "java/lang/invoke/VarHandle" ∧ (parseMethodDescriptor yJ_min_JJJ.desc).map (fun d => d.parameters.length) = some 2 := by decide +kernel
theorem hd_J_max_JJJ : yJ_max_JJJ.cls ≠ "java/lang/invoke/MethodHandle" ∧ yJ_max_JJJ.cls ≠ "java/lang/invoke/VarHandle" ∧ (parseMethodDescriptor yJ_max_JJJ.desc).map (fun d => d.parameters.length) = some 2 := by decide +kernel
theorem hd_S_add : yS_add.cls ≠ "java/lang/invoke/MethodHandle" ∧ yS_add.cls ≠ "java/lang/invoke/VarHandle" ∧ (parseMethodDescriptor yS_add.desc).map (fun d => d.parameters.length) = some 2 := by decide +kernel
theorem hd_S_isParentBefore : yS_isParentBefore.cls ≠ "java/lang/invoke/MethodHandle" ∧ yS_isParentBefore.cls ≠ "java/lang/invoke/VarHandle" ∧ (parseMethodDescriptor yS_isParentBefore.desc).map (fun d => d.parameters.length) = some 2 := by decide +kernel
theorem hd_S_put : yS_put.cls ≠ "java/lang/invoke/MethodHandle" ∧ yS_put.cls ≠ "java/lang/invoke/VarHandle" ∧ (parseMethodDescriptor yS_put.desc).map (fun d => d.parameters.length) = some 5 := by decide +kernel
theorem hd_S_refreshLocal : yS_refreshLocal.cls ≠ "java/lang/invoke/MethodHandle" ∧ yS_refreshLocal.cls ≠ "java/lang/invoke/VarHandle" ∧ (parseMethodDescriptor yS_refreshLocal.desc).map (fun d => d.parameters.length) = some 1 := by decide +kernel
theorem hd_S_clear : yS_clear.cls ≠ "java/lang/invoke/MethodHandle" ∧ yS_clear.cls ≠ "java/lang/invoke/VarHandle" ∧ (parseMethodDescriptor yS_clear.desc).map (fun d => d.parameters.length) = some 0 := by decide +kernel
theorem hd_S_set : yS_set.cls ≠ "java/lang/invoke/MethodHandle" ∧ yS_set.cls ≠ "java/lang/invoke/VarHandle" ∧ (parseMethodDescriptor yS_set.desc).map (fun d => d.parameters.length) = some 5 := by decide +kernel
theorem hd_S_isNode : yS_isNode.cls ≠ "java/lang/invoke/MethodHandle" ∧ yS_isNode.cls ≠ "java/lang/invoke/VarHandle" ∧ (parseMethodDescriptor yS_isNode.desc).map (fun d => d.parameters.length) = some 1 := by decide +kernel
theorem hd_S_canBe : yS_canBe.cls ≠ "java/lang/invoke/MethodHandle" ∧ yS_canBe.cls ≠ "java/lang/invoke/VarHandle" ∧ (parseMethodDescriptor yS_canBe.desc).map (fun d => d.parameters.length) = some 4 := by decide +kernel
theorem hd_S_isWithin : yS_isWithin.cls ≠ "java/lang/invoke/MethodHandle" ∧ yS_isWithin.cls ≠ "java/lang/invoke/VarHandle" ∧ (parseMethodDescriptor yS_isWithin.desc).map (fun d => d.parameters.length) = some 2 := by decide +kernel
theorem hd_J_min_III : yJ_min_III.cls ≠ "java/lang/invoke/MethodHandle" ∧ yJ_min_III.cls ≠ "java/lang/invoke/VarHandle" ∧ (parseMethodDescriptor yJ_min_III.desc).map (fun d => d.parameters.length) = some 2 := by decide +kernel
theorem hd_S_hang : yS_hang.cls ≠ "java/lang/invoke/MethodHandle" ∧ yS_hang.cls ≠ "java/lang/invoke/VarHandle" ∧ (parseMethodDescriptor yS_hang.desc).map (fun d => d.parameters.length) = some 2 := by decide +kernel
theorem hd_S_hide : yS_hide.cls ≠ "java/lang/invoke/MethodHandle" ∧ yS_hide.cls ≠ "java/lang/invoke/VarHandle" ∧ (parseMethodDescriptor yS_hide.desc).map (fun d => d.parameters.length) = some 2 := by decide +kernel
theorem hd_S_camera : yS_camera.cls ≠ "java/lang/invoke/MethodHandle" ∧ yS_camera.cls ≠ "java/lang/invoke/VarHandle" ∧ (parseMethodDescriptor yS_camera.desc).map (fun d => d.parameters.length) = some 4 := by decide +kernel
theorem hd_S_seen : yS_seen.cls ≠ "java/lang/invoke/MethodHandle" ∧ yS_seen.cls ≠ "java/lang/invoke/VarHandle" ∧ (parseMethodDescriptor yS_seen.desc).map (fun d => d.parameters.length) = some 0 := by decide +kernel
theorem hd_S_markOpen : yS_markOpen.cls ≠ "java/lang/invoke/MethodHandle" ∧ yS_markOpen.cls ≠ "java/lang/invoke/VarHandle" ∧ (parseMethodDescriptor yS_markOpen.desc).map (fun d => d.parameters.length) = some 0 := by decide +kernel
theorem hd_S_isSeen : yS_isSeen.cls ≠ "java/lang/invoke/MethodHandle" ∧ yS_isSeen.cls ≠ "java/lang/invoke/VarHandle" ∧ (parseMethodDescriptor yS_isSeen.desc).map (fun d => d.parameters.length) = some 1 := by decide +kernel
theorem hd_S_inOrder : yS_inOrder.cls ≠ "java/lang/invoke/MethodHandle" ∧ yS_inOrder.cls ≠ "java/lang/invoke/VarHandle" ∧ (parseMethodDescriptor yS_inOrder.desc).map (fun d => d.parameters.length) = some 1 := by decide +kernel
theorem hd_S_putInOrder : yS_putInOrder.cls ≠ "java/lang/invoke/MethodHandle" ∧ yS_putInOrder.cls ≠ "java/lang/invoke/VarHandle" ∧ (parseMethodDescriptor yS_putInOrder.desc).map (fun d => d.parameters.length) = some 0 := by decide +kernel
theorem hd_S_readyWorlds : yS_readyWorlds.cls ≠ "java/lang/invoke/MethodHandle" ∧ yS_readyWorlds.cls ≠ "java/lang/invoke/VarHandle" ∧ (parseMethodDescriptor yS_readyWorlds.desc).map (fun d => d.parameters.length) = some 1 := by decide +kernel
theorem hd_J_max_III : yJ_max_III.cls ≠ "java/lang/invoke/MethodHandle" ∧ yJ_max_III.cls ≠ "java/lang/invoke/VarHandle" ∧ (parseMethodDescriptor yJ_max_III.desc).map (fun d => d.parameters.length) = some 2 := by decide +kernel
theorem hd_S_insert : yS_insert.cls ≠ "java/lang/invoke/MethodHandle" ∧ yS_insert.cls ≠ "java/lang/invoke/VarHandle" ∧ (parseMethodDescriptor yS_insert.desc).map (fun d => d.parameters.length) = some 2 := by decide +kernel
theorem hd_S_isDrawnBefore : yS_isDrawnBefore.cls ≠ "java/lang/invoke/MethodHandle" ∧ yS_isDrawnBefore.cls ≠ "java/lang/invoke/VarHandle" ∧ (parseMethodDescriptor yS_isDrawnBefore.desc).map (fun d => d.parameters.length) = some 2 := by decide +kernel
theorem hd_S_count : yS_count.cls ≠ "java/lang/invoke/MethodHandle" ∧ yS_count.cls ≠ "java/lang/invoke/VarHandle" ∧ (parseMethodDescriptor yS_count.desc).map (fun d => d.parameters.length) = some 0 := by decide +kernel
theorem hd_L_world : yL_world.cls ≠ "java/lang/invoke/MethodHandle" ∧ yL_world.cls ≠ "java/lang/invoke/VarHandle" ∧ (parseMethodDescriptor yL_world.desc).map (fun d => d.parameters.length) = some 5 := by decide +kernel
theorem hd_S_world : yS_world.cls ≠ "java/lang/invoke/MethodHandle" ∧ yS_world.cls ≠ "java/lang/invoke/VarHandle" ∧ (parseMethodDescriptor yS_world.desc).map (fun d => d.parameters.length) = some 3 := by decide +kernel
theorem hd_S_isCell : yS_isCell.cls ≠ "java/lang/invoke/MethodHandle" ∧ yS_isCell.cls ≠ "java/lang/invoke/VarHandle" ∧ (parseMethodDescriptor yS_isCell.desc).map (fun d => d.parameters.length) = some 2 := by decide +kernel
theorem hd_L_model : yL_model.cls ≠ "java/lang/invoke/MethodHandle" ∧ yL_model.cls ≠ "java/lang/invoke/VarHandle" ∧ (parseMethodDescriptor yL_model.desc).map (fun d => d.parameters.length) = some 5 := by decide +kernel
theorem hd_S_model : yS_model.cls ≠ "java/lang/invoke/MethodHandle" ∧ yS_model.cls ≠ "java/lang/invoke/VarHandle" ∧ (parseMethodDescriptor yS_model.desc).map (fun d => d.parameters.length) = some 3 := by decide +kernel
theorem hd_L_about : yL_about.cls ≠ "java/lang/invoke/MethodHandle" ∧ yL_about.cls ≠ "java/lang/invoke/VarHandle" ∧ (parseMethodDescriptor yL_about.desc).map (fun d => d.parameters.length) = some 4 := by decide +kernel
theorem hd_S_about : yS_about.cls ≠ "java/lang/invoke/MethodHandle" ∧ yS_about.cls ≠ "java/lang/invoke/VarHandle" ∧ (parseMethodDescriptor yS_about.desc).map (fun d => d.parameters.length) = some 2 := by decide +kernel
theorem hd_M_init : yM_init.cls ≠ "java/lang/invoke/MethodHandle" ∧ yM_init.cls ≠ "java/lang/invoke/VarHandle" ∧ (parseMethodDescriptor yM_init.desc).map (fun d => d.parameters.length) = some 0 := by decide +kernel
theorem hd_M_thrown : yM_thrown.cls ≠ "java/lang/invoke/MethodHandle" ∧ yM_thrown.cls ≠ "java/lang/invoke/VarHandle" ∧ (parseMethodDescriptor yM_thrown.desc).map (fun d => d.parameters.length) = some 0 := by decide +kernel
theorem hd_M_add : yM_add.cls ≠ "java/lang/invoke/MethodHandle" ∧ yM_add.cls ≠ "java/lang/invoke/VarHandle" ∧ (parseMethodDescriptor yM_add.desc).map (fun d => d.parameters.length) = some 2 := by decide +kernel
theorem hd_M_clear : yM_clear.cls ≠ "java/lang/invoke/MethodHandle" ∧ yM_clear.cls ≠ "java/lang/invoke/VarHandle" ∧ (parseMethodDescriptor yM_clear.desc).map (fun d => d.parameters.length) = some 0 := by decide +kernel
theorem hd_M_set : yM_set.cls ≠ "java/lang/invoke/MethodHandle" ∧ yM_set.cls ≠ "java/lang/invoke/VarHandle" ∧ (parseMethodDescriptor yM_set.desc).map (fun d => d.parameters.length) = some 5 := by decide +kernel
theorem hd_M_isNode : yM_isNode.cls ≠ "java/lang/invoke/MethodHandle" ∧ yM_isNode.cls ≠ "java/lang/invoke/VarHandle" ∧ (parseMethodDescriptor yM_isNode.desc).map (fun d => d.parameters.length) = some 1 := by decide +kernel
theorem hd_M_lays : yM_lays.cls ≠ "java/lang/invoke/MethodHandle" ∧ yM_lays.cls ≠ "java/lang/invoke/VarHandle" ∧ (parseMethodDescriptor yM_lays.desc).map (fun d => d.parameters.length) = some 5 := by decide +kernel
theorem hd_M_can : yM_can.cls ≠ "java/lang/invoke/MethodHandle" ∧ yM_can.cls ≠ "java/lang/invoke/VarHandle" ∧ (parseMethodDescriptor yM_can.desc).map (fun d => d.parameters.length) = some 2 := by decide +kernel
theorem hd_M_hang : yM_hang.cls ≠ "java/lang/invoke/MethodHandle" ∧ yM_hang.cls ≠ "java/lang/invoke/VarHandle" ∧ (parseMethodDescriptor yM_hang.desc).map (fun d => d.parameters.length) = some 2 := by decide +kernel
theorem hd_M_hide : yM_hide.cls ≠ "java/lang/invoke/MethodHandle" ∧ yM_hide.cls ≠ "java/lang/invoke/VarHandle" ∧ (parseMethodDescriptor yM_hide.desc).map (fun d => d.parameters.length) = some 2 := by decide +kernel
theorem hd_M_camera : yM_camera.cls ≠ "java/lang/invoke/MethodHandle" ∧ yM_camera.cls ≠ "java/lang/invoke/VarHandle" ∧ (parseMethodDescriptor yM_camera.desc).map (fun d => d.parameters.length) = some 4 := by decide +kernel
theorem hd_M_world : yM_world.cls ≠ "java/lang/invoke/MethodHandle" ∧ yM_world.cls ≠ "java/lang/invoke/VarHandle" ∧ (parseMethodDescriptor yM_world.desc).map (fun d => d.parameters.length) = some 3 := by decide +kernel
theorem hd_M_isPlace : yM_isPlace.cls ≠ "java/lang/invoke/MethodHandle" ∧ yM_isPlace.cls ≠ "java/lang/invoke/VarHandle" ∧ (parseMethodDescriptor yM_isPlace.desc).map (fun d => d.parameters.length) = some 3 := by decide +kernel
theorem hd_M_makesWorld : yM_makesWorld.cls ≠ "java/lang/invoke/MethodHandle" ∧ yM_makesWorld.cls ≠ "java/lang/invoke/VarHandle" ∧ (parseMethodDescriptor yM_makesWorld.desc).map (fun d => d.parameters.length) = some 1 := by decide +kernel
theorem hd_M_makesLocal : yM_makesLocal.cls ≠ "java/lang/invoke/MethodHandle" ∧ yM_makesLocal.cls ≠ "java/lang/invoke/VarHandle" ∧ (parseMethodDescriptor yM_makesLocal.desc).map (fun d => d.parameters.length) = some 1 := by decide +kernel
theorem hd_M_turn : yM_turn.cls ≠ "java/lang/invoke/MethodHandle" ∧ yM_turn.cls ≠ "java/lang/invoke/VarHandle" ∧ (parseMethodDescriptor yM_turn.desc).map (fun d => d.parameters.length) = some 1 := by decide +kernel
theorem hd_M_axis : yM_axis.cls ≠ "java/lang/invoke/MethodHandle" ∧ yM_axis.cls ≠ "java/lang/invoke/VarHandle" ∧ (parseMethodDescriptor yM_axis.desc).map (fun d => d.parameters.length) = some 3 := by decide +kernel
theorem hd_M_cos : yM_cos.cls ≠ "java/lang/invoke/MethodHandle" ∧ yM_cos.cls ≠ "java/lang/invoke/VarHandle" ∧ (parseMethodDescriptor yM_cos.desc).map (fun d => d.parameters.length) = some 1 := by decide +kernel
theorem hd_M_sin : yM_sin.cls ≠ "java/lang/invoke/MethodHandle" ∧ yM_sin.cls ≠ "java/lang/invoke/VarHandle" ∧ (parseMethodDescriptor yM_sin.desc).map (fun d => d.parameters.length) = some 1 := by decide +kernel
theorem hd_M_times : yM_times.cls ≠ "java/lang/invoke/MethodHandle" ∧ yM_times.cls ≠ "java/lang/invoke/VarHandle" ∧ (parseMethodDescriptor yM_times.desc).map (fun d => d.parameters.length) = some 0 := by decide +kernel
theorem hd_M_mul : yM_mul.cls ≠ "java/lang/invoke/MethodHandle" ∧ yM_mul.cls ≠ "java/lang/invoke/VarHandle" ∧ (parseMethodDescriptor yM_mul.desc).map (fun d => d.parameters.length) = some 2 := by decide +kernel
theorem hd_M_bound : yM_bound.cls ≠ "java/lang/invoke/MethodHandle" ∧ yM_bound.cls ≠ "java/lang/invoke/VarHandle" ∧ (parseMethodDescriptor yM_bound.desc).map (fun d => d.parameters.length) = some 1 := by decide +kernel
theorem hd_M_copy : yM_copy.cls ≠ "java/lang/invoke/MethodHandle" ∧ yM_copy.cls ≠ "java/lang/invoke/VarHandle" ∧ (parseMethodDescriptor yM_copy.desc).map (fun d => d.parameters.length) = some 2 := by decide +kernel
theorem hd_M_model : yM_model.cls ≠ "java/lang/invoke/MethodHandle" ∧ yM_model.cls ≠ "java/lang/invoke/VarHandle" ∧ (parseMethodDescriptor yM_model.desc).map (fun d => d.parameters.length) = some 3 := by decide +kernel
theorem hd_M_makesModel : yM_makesModel.cls ≠ "java/lang/invoke/MethodHandle" ∧ yM_makesModel.cls ≠ "java/lang/invoke/VarHandle" ∧ (parseMethodDescriptor yM_makesModel.desc).map (fun d => d.parameters.length) = some 1 := by decide +kernel
theorem hd_M_seen : yM_seen.cls ≠ "java/lang/invoke/MethodHandle" ∧ yM_seen.cls ≠ "java/lang/invoke/VarHandle" ∧ (parseMethodDescriptor yM_seen.desc).map (fun d => d.parameters.length) = some 0 := by decide +kernel
theorem hd_M_isSeen : yM_isSeen.cls ≠ "java/lang/invoke/MethodHandle" ∧ yM_isSeen.cls ≠ "java/lang/invoke/VarHandle" ∧ (parseMethodDescriptor yM_isSeen.desc).map (fun d => d.parameters.length) = some 1 := by decide +kernel
theorem hd_M_inOrder : yM_inOrder.cls ≠ "java/lang/invoke/MethodHandle" ∧ yM_inOrder.cls ≠ "java/lang/invoke/VarHandle" ∧ (parseMethodDescriptor yM_inOrder.desc).map (fun d => d.parameters.length) = some 1 := by decide +kernel
theorem hd_M_isBefore : yM_isBefore.cls ≠ "java/lang/invoke/MethodHandle" ∧ yM_isBefore.cls ≠ "java/lang/invoke/VarHandle" ∧ (parseMethodDescriptor yM_isBefore.desc).map (fun d => d.parameters.length) = some 2 := by decide +kernel
theorem hd_M_about : yM_about.cls ≠ "java/lang/invoke/MethodHandle" ∧ yM_about.cls ≠ "java/lang/invoke/VarHandle" ∧ (parseMethodDescriptor yM_about.desc).map (fun d => d.parameters.length) = some 2 := by decide +kernel
theorem hd_M_count : yM_count.cls ≠ "java/lang/invoke/MethodHandle" ∧ yM_count.cls ≠ "java/lang/invoke/VarHandle" ∧ (parseMethodDescriptor yM_count.desc).map (fun d => d.parameters.length) = some 0 := by decide +kernel
theorem hd_L_law : yL_law.cls ≠ "java/lang/invoke/MethodHandle" ∧ yL_law.cls ≠ "java/lang/invoke/VarHandle" ∧ (parseMethodDescriptor yL_law.desc).map (fun d => d.parameters.length) = some 1 := by decide +kernel
end
section
/-! A BLOCK OF CELLS: place k < n of a block lies at the address ad k and holds f k. An object's whole world is one block; every method of it gets the block and gives it back. -/
def bw (ad : Nat → Nat) (n : Nat) (f : Nat → va_E) : va_W := (List.range n).map (fun k => (ad k, f k))
theorem bw_at {ad : Nat → Nat} {n : Nat} {f : Nat → va_E} {k : Nat} {e : va_E} (h : k < n) (he : f k = e) : (bw ad n f)[k]? = some (ad k, e) := by
  subst he
  simp [bw, h]
theorem bw_inv {ad : Nat → Nat} {n : Nat} {f : Nat → va_E} {k : Nat} {q : Nat × va_E} (h : (bw ad n f)[k]? = some q) : k < n ∧ q = (ad k, f k) := by
  have hk : k < n := by
    have := (List.getElem?_eq_some_iff.mp h).1
    simpa [bw] using this
  rw [bw_at hk rfl] at h
  exact ⟨hk, (Option.some.inj h).symm⟩
theorem bw_set {ad : Nat → Nat} {n : Nat} {f : Nat → va_E} {k : Nat} {e : va_E} (h : k < n) : (bw ad n f).set k (ad k, e) = bw ad n (va_up f k e) := by
  apply List.ext_getElem?
  intro j
  by_cases hj : j = k
  · subst hj
    rw [List.getElem?_set_self (by simpa [bw] using h), bw_at h (va_up_self f j e)]
  · rw [List.getElem?_set_ne (Ne.symm hj)]
    by_cases hn : j < n
    · rw [bw_at hn rfl, bw_at hn rfl, va_up_ne f e hj]
    · rw [List.getElem?_eq_none (by simp [bw]; omega), List.getElem?_eq_none (by simp [bw]; omega)]
def bw_I (ad : Nat → Nat) (n : Nat) : Prop := ∀ i j : Nat, i < n → j < n → ad i = ad j → i = j
def bw_A (ad : Nat → Nat) (n sz : Nat) : Nat → Prop := fun q => (∃ k : Nat, k < n ∧ q = ad k) ∨ sz ≤ q
theorem bw_D {A : Nat → Prop} {ad : Nat → Nat} {n : Nat} {f : Nat → va_E} (hI : bw_I ad n) (hA : ∀ k, k < n → A (ad k)) : va_D A (bw ad n f) := by
  refine ⟨fun i j p q hp hq e => ?_, fun k q hq => ?_⟩
  · obtain ⟨h1, rfl⟩ := bw_inv hp
    obtain ⟨h2, rfl⟩ := bw_inv hq
    exact hI i j h1 h2 e
  · obtain ⟨h1, rfl⟩ := bw_inv hq
    exact hA k h1
theorem bw_D0 {ad : Nat → Nat} {n sz : Nat} {f : Nat → va_E} (hI : bw_I ad n) : va_D (bw_A ad n sz) (bw ad n f) := bw_D hI (fun k hk => Or.inl ⟨k, hk, rfl⟩)
theorem bw_up {ρ : Type} (cell : Nat → ρ → va_E) (M : Nat → ρ) (q : Nat) (r : ρ) : va_up (fun j => cell j (M j)) q (cell q r) = fun j => cell j (va_up M q r j) := by
  funext j
  by_cases h : j = q
  · subst h; simp [va_up]
  · simp [va_up, h]
theorem bw_lt {D : va_G} {cl : List vw_C} {ad : Nat → Nat} {n : Nat} {f : Nat → va_E} {H : Heap} (hP : va_P D cl (bw ad n f) H) {k : Nat} (hk : k < n) : ad k < H.size := (hP k _ (bw_at hk rfl)).lt
/-- the words on private members of nest mates, which are no good words -/
def nestW : List Cond := [.methodLinkNest RS 55 yT_init RS, .methodLinkNest RS 118 yT_turnOf RS, .methodLinkNest RT 35 yS_sine RS, .methodLinkNest RT 31 yS_multiply RS]
def nestOk (U : State) : Prop := ∀ w ∈ nestW, va_Nw w U
theorem nestOk.warm {s U : State} (hW : s.WarmedH U.vm) (h : nestOk s) : nestOk U := by
  intro w hw
  have h1 := h w hw
  simp only [nestW, List.mem_cons, List.not_mem_nil, or_false] at hw
  rcases hw with rfl | rfl | rfl | rfl <;> exact va_Nw.warmM hW h1
theorem nestOk.same {s U : State} (h : s.vm = U.vm) (hn : nestOk s) : nestOk U := by
  intro w hw
  have h1 := hn w hw
  simp only [nestW, List.mem_cons, List.not_mem_nil, or_false] at hw
  rcases hw with rfl | rfl | rfl | rfl <;> exact va_Nw.same rfl h h1
/-- the tables of a method's start: classes, array classes, nest words -/
def bE (D : va_G) (tys : List (ClassId × FieldType)) (U : State) : Prop := va_K D cls3 tys U ∧ nestOk U
theorem bE.warm {D : va_G} {tys : List (ClassId × FieldType)} {s U : State} (hW : s.WarmedH U.vm) (h : bE D tys s) : bE D tys U := ⟨va_K.moved hW.alike h.1, h.2.warm hW⟩
theorem bE.calling {D : va_G} {tys : List (ClassId × FieldType)} {U : State} {g : JFrame} {mk : MethodId} {a : Array Value} (h : bE D tys U) : bE D tys (U.calling g mk a) := ⟨va_K.moved (u := U) (U := U.calling g mk a) (Vm.Alike.refl U.vm) h.1, nestOk.same (s := U) rfl h.2⟩
/-- a method's world: the heap's size, the block, the tables -/
def bPre (D : va_G) (tys : List (ClassId × FieldType)) (ad : Nat → Nat) (n : Nat) (f : Nat → va_E) (sz : Nat) (U : State) : Prop := U.heap.size = sz ∧ va_P D cls3 (bw ad n f) U.heap ∧ bE D tys U
theorem bPre.calling {D : va_G} {tys : List (ClassId × FieldType)} {ad : Nat → Nat} {n : Nat} {f : Nat → va_E} {sz : Nat} {U : State} {g : JFrame} {mk : MethodId} {a : Array Value} (h : bPre D tys ad n f sz U) : bPre D tys ad n f sz (U.calling g mk a) := ⟨h.1, h.2.1, h.2.2.calling⟩
theorem bBlind {Pw : State → Prop} {av : List Value} (h : ∀ (U : State) (g : JFrame) (mk : MethodId) (a : Array Value), Pw U → Pw (U.calling g mk a)) : FrameBlind (va_Pc av Pw) := fun a U g mk q => ⟨q.1, h U g mk a q.2⟩
theorem goodAll {w : Cond} (h : w ∈ ws_all) : GoodIn ws_all (w :: ws_all) := fun w' h' => by
  rcases List.mem_cons.mp h' with rfl | h'
  · exact ⟨h, good_of_word (ws_good h)⟩
  · exact ⟨h', good_of_word (ws_good h')⟩
section BW
variable {p : Program} {l : Launch} {e : Env} {R : Room} {s : State} {m : MethodId} {args : Array Value} {below : List Frame} {meth : Method} {c : Code} {H : Heap} {locs : List Loc} {cells slots : Nat} {Q : State → Prop}
variable {cc : ByteArray} {pc : Nat} {ls : Array Slot} {rest : List Value} {D : va_G} {tys : List (ClassId × FieldType)} {ad : Nat → Nat} {n : Nat}
theorem bw_get {f : Nat → va_E} (hx : p.tables.exec = Jvm.exec) (hb : c.code = cc) {own C : String} {T : u_T} {N ci index : Nat} (hts : ∀ w ∈ ws_all, w.before args s = true) (hin : ∀ w ∈ u_ws C T N, w ∈ ws_all) (hown : s.vm.findClass own = some m.cls) (hE : bE D tys s) (hP : va_P D cls3 (bw ad n f) H) (q : Nat) (hq : q < n) {fs : List Value} (hf : f q = .inr (ci, fs)) (hc : cls3[ci]? = some (C, T, N)) (k : Nat) (hk : k < N) (hl : Cond.fieldLink own index C (T k).2.1 (T k).2.2.1 ∈ ws_all) (hT : (T k).1 = C) {v : Value} (hv : fs[k]? = some v) (hdg : decode cc pc = .ok (.getfield index, 3))
    (kk : W p l e R s m args below meth c H locs cells slots Q (F0 m (pc + 3) ls (v :: rest))) : W p l e R s m args below meth c H locs cells slots Q (F0 m pc ls (.ref (ad q) :: rest)) :=
  va_get hx hb hts hin hown hE.1 hP q (bw_at hq hf) hc k hk (hts _ hl) (by rw [hT]; exact fun _ h => h) hv hdg kk
theorem bw_put {ρ : Type} {cell : Nat → ρ → va_E} {M : Nat → ρ} (hx : p.tables.exec = Jvm.exec) (hb : c.code = cc) {own C : String} {T : u_T} {N ci index : Nat} (hts : ∀ w ∈ ws_all, w.before args s = true) (hin : ∀ w ∈ u_ws C T N, w ∈ ws_all) (ty0 : Nat → FieldType) (hty : ∀ k, k < N → parseFieldDescriptor (T k).2.2.1 = some (ty0 k)) (hnm : ∀ a, a < N → ∀ b, b < N → a ≠ b → (T a).2.1 ≠ (T b).2.1) (hown : s.vm.findClass own = some m.cls) (hE : bE D tys s) (hI : bw_I ad n) (hP : va_P D cls3 (bw ad n (fun j => cell j (M j))) H) (hS : va_S (bw_A ad n s.heap.size) s.heap H locs) (q : Nat) (hq : q < n) {fs : List Value} (hf : cell q (M q) = .inr (ci, fs)) (hc : cls3[ci]? = some (C, T, N)) (k : Nat) (hk : k < N) (hl : Cond.fieldLink own index C (T k).2.1 (T k).2.2.1 ∈ ws_all) (hT : (T k).1 = C) (hfin : (T k).2.2.2 = false) {ty : FieldType} {v : Value} (r : ρ) (hf' : cell q r = .inr (ci, fs.set k v)) (hd : parseFieldDescriptor (T k).2.2.1 = some ty) (hn : narrow ty v = v) (hfit : fits ty v = true) (hlen : k < fs.length)
    (hdg : decode cc pc = .ok (.putfield index, 3)) (kk : ∀ (M1 : Nat → ρ) (H1 : Heap) (locs1 : List Loc), M1 = va_up M q r → va_P D cls3 (bw ad n (fun j => cell j (M1 j))) H1 → va_S (bw_A ad n s.heap.size) s.heap H1 locs1 → W p l e R s m args below meth c H1 locs1 cells slots Q (F0 m (pc + 3) ls rest)) : W p l e R s m args below meth c H locs cells slots Q (F0 m pc ls (v :: .ref (ad q) :: rest)) := by
  refine va_put hx hb hts hin ty0 hty hnm hown hE.1 hP (bw_D0 hI) hS q (bw_at hq hf) hc k hk (hts _ hl) (by rw [hT]; exact fun _ h => h) hfin hd hn hfit hlen hdg (fun H1 locs1 h1 _ h3 => ?_)
  rw [bw_set hq, ← hf', bw_up] at h1
  exact kk _ H1 locs1 rfl h1 h3
theorem bw_iald {f : Nat → va_E} (hx : p.tables.exec = Jvm.exec) (hb : c.code = cc) (hE : bE D tys s) (hP : va_P D cls3 (bw ad n f) H) (q t0 : Nat) (hq : q < n) {cA : ClassId} {L : Nat} {g : Nat → Int32} (hf : f q = .inl (cA, L, .inl g)) (ht : tys[t0]? = some (cA, .int)) {i : Int32} (hin : vp_in i L) (hdg : decode cc pc = .ok (.iaload, 1))
    (kk : W p l e R s m args below meth c H locs cells slots Q (F0 m (pc + 1) ls (.int (g i.toNatClampNeg) :: rest))) : W p l e R s m args below meth c H locs cells slots Q (F0 m pc ls (.int i :: .ref (ad q) :: rest)) :=
  va_iald hx hb hE.1 hP q t0 (bw_at hq hf) ht hin hdg kk
theorem bw_zald {f : Nat → va_E} (hx : p.tables.exec = Jvm.exec) (hb : c.code = cc) (hE : bE D tys s) (hP : va_P D cls3 (bw ad n f) H) (q t0 : Nat) (hq : q < n) {cA : ClassId} {L : Nat} {g : Nat → Int32} (hf : f q = .inl (cA, L, .inl g)) (ht : tys[t0]? = some (cA, .boolean)) {i : Int32} (hin : vp_in i L) (hdg : decode cc pc = .ok (.baload, 1))
    (kk : W p l e R s m args below meth c H locs cells slots Q (F0 m (pc + 1) ls (.int (g i.toNatClampNeg) :: rest))) : W p l e R s m args below meth c H locs cells slots Q (F0 m pc ls (.int i :: .ref (ad q) :: rest)) :=
  va_zald hx hb hE.1 hP q t0 (bw_at hq hf) ht hin hdg kk
theorem bw_lald {f : Nat → va_E} (hx : p.tables.exec = Jvm.exec) (hb : c.code = cc) (hE : bE D tys s) (hP : va_P D cls3 (bw ad n f) H) (q t0 : Nat) (hq : q < n) {cA : ClassId} {L : Nat} {g : Nat → Int64} (hf : f q = .inl (cA, L, .inr (.inl g))) (ht : tys[t0]? = some (cA, .long)) {i : Int32} (hin : vp_in i L) (hdg : decode cc pc = .ok (.laload, 1))
    (kk : W p l e R s m args below meth c H locs cells slots Q (F0 m (pc + 1) ls (.long (g i.toNatClampNeg) :: rest))) : W p l e R s m args below meth c H locs cells slots Q (F0 m pc ls (.int i :: .ref (ad q) :: rest)) :=
  va_lald hx hb hE.1 hP q t0 (bw_at hq hf) ht hin hdg kk
/-- a row of an array of arrays -/
theorem bw_aald {f : Nat → va_E} (hx : p.tables.exec = Jvm.exec) (hb : c.code = cc) (hE : bE D tys s) (hP : va_P D cls3 (bw ad n f) H) (q t0 : Nat) (hq : q < n) {cA : ClassId} {L : Nat} {g : Nat → Option Nat} (hf : f q = .inl (cA, L, .inr (.inr (.inr (.inr g))))) (ht : tys[t0]? = some (cA, .array .int)) {i : Int32} (hin : vp_in i L) {a : Nat} (hg : g i.toNatClampNeg = some a) (hdg : decode cc pc = .ok (.aaload, 1))
    (kk : W p l e R s m args below meth c H locs cells slots Q (F0 m (pc + 1) ls (.ref a :: rest))) : W p l e R s m args below meth c H locs cells slots Q (F0 m pc ls (.int i :: .ref (ad q) :: rest)) := by
  have hlt : i.toNatClampNeg < L := Nat.not_le.mp fun q => hin (Or.inr q)
  refine W.aald (v := va_rf (g i.toNatClampNeg)) (ty := .array .int) hx hb (hP q _ (bw_at hq hf)) ((hE.1.2 t0 _ ht).1 L (fun j => va_rf (g j))) rfl (fun q => by cases q) (by show ¬ (i < 0 ∨ (arrV _ _ _).slots.size ≤ _); rw [arrV_size]; exact hin) (by show (arrV _ _ _).slots[_]? = _; rw [arrV_read _ _ hlt]) rfl rfl hdg ?_
  rw [hg]
  exact kk
theorem bw_iast {ρ : Type} {cell : Nat → ρ → va_E} {M : Nat → ρ} (hx : p.tables.exec = Jvm.exec) (hb : c.code = cc) (hE : bE D tys s) (hI : bw_I ad n) (hP : va_P D cls3 (bw ad n (fun j => cell j (M j))) H) (hS : va_S (bw_A ad n s.heap.size) s.heap H locs) (q t0 : Nat) (hq : q < n) {cA : ClassId} {L : Nat} {g : Nat → Int32} (hf : cell q (M q) = .inl (cA, L, .inl g)) (ht : tys[t0]? = some (cA, .int)) {i x : Int32} (hin : vp_in i L) (r : ρ) (hf' : cell q r = .inl (cA, L, .inl (upd g i.toNatClampNeg x))) (hdg : decode cc pc = .ok (.iastore, 1))
    (kk : ∀ (M1 : Nat → ρ) (H1 : Heap) (locs1 : List Loc), M1 = va_up M q r → va_P D cls3 (bw ad n (fun j => cell j (M1 j))) H1 → va_S (bw_A ad n s.heap.size) s.heap H1 locs1 → W p l e R s m args below meth c H1 locs1 cells slots Q (F0 m (pc + 1) ls rest)) : W p l e R s m args below meth c H locs cells slots Q (F0 m pc ls (.int x :: .int i :: .ref (ad q) :: rest)) := by
  refine va_iast hx hb hE.1 hP (bw_D0 hI) hS q t0 (bw_at hq hf) ht hin hdg (fun H1 locs1 h1 _ h3 => ?_)
  rw [bw_set hq, ← hf', bw_up] at h1
  exact kk _ H1 locs1 rfl h1 h3
theorem bw_zast {ρ : Type} {cell : Nat → ρ → va_E} {M : Nat → ρ} (hx : p.tables.exec = Jvm.exec) (hb : c.code = cc) (hE : bE D tys s) (hI : bw_I ad n) (hP : va_P D cls3 (bw ad n (fun j => cell j (M j))) H) (hS : va_S (bw_A ad n s.heap.size) s.heap H locs) (q t0 : Nat) (hq : q < n) {cA : ClassId} {L : Nat} {g : Nat → Int32} (hf : cell q (M q) = .inl (cA, L, .inl g)) (ht : tys[t0]? = some (cA, .boolean)) {i x : Int32} (hin : vp_in i L) (r : ρ) (hf' : cell q r = .inl (cA, L, .inl (upd g i.toNatClampNeg (vp_nar .boolean x)))) (hdg : decode cc pc = .ok (.bastore, 1))
    (kk : ∀ (M1 : Nat → ρ) (H1 : Heap) (locs1 : List Loc), M1 = va_up M q r → va_P D cls3 (bw ad n (fun j => cell j (M1 j))) H1 → va_S (bw_A ad n s.heap.size) s.heap H1 locs1 → W p l e R s m args below meth c H1 locs1 cells slots Q (F0 m (pc + 1) ls rest)) : W p l e R s m args below meth c H locs cells slots Q (F0 m pc ls (.int x :: .int i :: .ref (ad q) :: rest)) := by
  refine va_zast hx hb hE.1 hP (bw_D0 hI) hS q t0 (bw_at hq hf) ht hin hdg (fun H1 locs1 h1 _ h3 => ?_)
  rw [bw_set hq, ← hf', bw_up] at h1
  exact kk _ H1 locs1 rfl h1 h3
theorem bw_last {ρ : Type} {cell : Nat → ρ → va_E} {M : Nat → ρ} (hx : p.tables.exec = Jvm.exec) (hb : c.code = cc) (hE : bE D tys s) (hI : bw_I ad n) (hP : va_P D cls3 (bw ad n (fun j => cell j (M j))) H) (hS : va_S (bw_A ad n s.heap.size) s.heap H locs) (q t0 : Nat) (hq : q < n) {cA : ClassId} {L : Nat} {g : Nat → Int64} (hf : cell q (M q) = .inl (cA, L, .inr (.inl g))) (ht : tys[t0]? = some (cA, .long)) {i : Int32} {x : Int64} (hin : vp_in i L) (r : ρ) (hf' : cell q r = .inl (cA, L, .inr (.inl (vp_updL g i.toNatClampNeg x)))) (hdg : decode cc pc = .ok (.lastore, 1))
    (kk : ∀ (M1 : Nat → ρ) (H1 : Heap) (locs1 : List Loc), M1 = va_up M q r → va_P D cls3 (bw ad n (fun j => cell j (M1 j))) H1 → va_S (bw_A ad n s.heap.size) s.heap H1 locs1 → W p l e R s m args below meth c H1 locs1 cells slots Q (F0 m (pc + 1) ls rest)) : W p l e R s m args below meth c H locs cells slots Q (F0 m pc ls (.long x :: .int i :: .ref (ad q) :: rest)) := by
  refine va_last hx hb hE.1 hP (bw_D0 hI) hS q t0 (bw_at hq hf) ht hin hdg (fun H1 locs1 h1 _ h3 => ?_)
  rw [bw_set hq, ← hf', bw_up] at h1
  exact kk _ H1 locs1 rfl h1 h3
end BW
end
section
/-! CALLS: a method whose words are ws_all, over a block -/
abbrev wc (y : MethodName) (bytes : ByteArray) (maxL : Nat) (ret : Option FieldType) : List Cond := Cond.code y bytes maxL ret :: ws_all
theorem goodV {own C : String} {idx : Nat} {y : MethodName} {w : Cond} (h1 : Cond.methodLink own idx y ∈ ws_all) (h2 : Cond.instanceMethod y ∈ ws_all) (h3 : Cond.selects C y y ∈ ws_all) (h4 : Cond.initialized C ∈ ws_all) (h : w ∈ ws_all) : GoodIn ws_all (wsV own idx C y (w :: ws_all)) := by
  intro x hx
  have hm : x ∈ ws_all := by
    unfold wsV at hx
    simp only [List.cons_append, List.nil_append, List.mem_cons] at hx
    rcases hx with rfl | rfl | rfl | rfl | rfl | hx
    · exact h1
    · exact h2
    · exact h3
    · exact h4
    · exact h
    · exact hx
  exact ⟨hm, good_of_word (ws_good hm)⟩
theorem goodS {own : String} {idx : Nat} {y : MethodName} {w : Cond} (h1 : Cond.methodLink own idx y ∈ ws_all) (h2 : Cond.static y ∈ ws_all) (h4 : Cond.initialized y.cls ∈ ws_all) (h : w ∈ ws_all) : GoodIn ws_all (va_wsS own idx y (w :: ws_all)) := by
  intro x hx
  have hm : x ∈ ws_all := by
    unfold va_wsS at hx
    simp only [List.cons_append, List.nil_append, List.mem_cons] at hx
    rcases hx with rfl | rfl | rfl | rfl | hx
    · exact h1
    · exact h2
    · exact h4
    · exact h
    · exact hx
  exact ⟨hm, good_of_word (ws_good hm)⟩
theorem bw_A_mono {ad : Nat → Nat} {n a b : Nat} (h : a ≤ b) {q : Nat} (hq : bw_A ad n b q) : bw_A ad n a q := by
  rcases hq with h1 | h1
  · exact Or.inl h1
  · exact Or.inr (Nat.le_trans h h1)
section BC
variable {p : Program} {l : Launch} {e : Env} {R : Room} {s : State} {m : MethodId} {args : Array Value} {below : List Frame} {meth : Method} {c : Code} {H : Heap} {locs : List Loc} {cells slots : Nat} {Q : State → Prop}
variable {cc : ByteArray} {pc : Nat} {ls : Array Slot} {rest st0 : List Value} {D : va_G} {tys : List (ClassId × FieldType)} {ad : Nat → Nat} {n : Nat}
variable {y : MethodName} {bytes : ByteArray} {maxL index mc ms b nA : Nat} {ret : Option FieldType} {rm : Room} {Pw : State → Prop} {Qc : Array Value → State → Outcome → State → Prop} {free : Addr → Prop} {As : List Value} {own C : String}
theorem bc_runV (hx : p.tables.exec = Jvm.exec) (hb : c.code = cc) (hml : c.maxLocals = ls.size) (hown : s.vm.findClass own = some m.cls) (hts : ∀ w ∈ ws_all, w.before args s = true) (hM : Met l y (wc y bytes maxL ret) rm (va_Pc (.ref b :: As) Pw) Qc mc ms free)
    (hcd : Cond.code y bytes maxL ret ∈ ws_all) (hlk : Cond.methodLink own index y ∈ ws_all) (hin : Cond.instanceMethod y ∈ ws_all) (hse : Cond.selects C y y ∈ ws_all) (hini : Cond.initialized C ∈ ws_all)
    (hd : y.cls = C ∧ y.cls ≠ "java/lang/invoke/MethodHandle" ∧ y.cls ≠ "java/lang/invoke/VarHandle" ∧ (parseMethodDescriptor y.desc).map (fun d => d.parameters.length) = some nA) (hn : As.length = nA) (hrm : rm.cells = mc ∧ rm.slots = ms) (hR : rm.frames + 1 ≤ R.frames ∧ 8 + (maxL + 11) + rm.locals ≤ R.locals)
    (hbl : ∀ (U : State) (g : JFrame) (mk : MethodId) (a : Array Value), Pw U → Pw (U.calling g mk a)) (hrv : ∃ cellB : Cell, H[b]? = some cellB ∧ cellB.vm.isStatics = false ∧ s.vm.findClass C = some cellB.cls) (hpre : ∀ U : State, U.heap = H → s.WarmedH U.vm → Pw U)
    (hst : st0 = As.reverse ++ .ref b :: rest) (hW : (rest.map fun v => v.category).sum ≤ 8) (hdg : decode cc pc = .ok (.invokevirtual index, 3)) (hf : cells + mc ≤ R.cells ∧ slots + ms ≤ R.slots) :
    va_Run p l e R s m args below meth c H locs cells slots mc ms (F0 m pc ls st0) rest (Qc (Value.ref b :: As).toArray) free :=
  va_runV (C := C) ⟨hx, hb, hml, hown, hts⟩ hM (cwV nA hts (goodV hlk hin hse hini hcd) rfl hrm.1 hrm.2 hd hR) ⟨bBlind hbl, hrv, fun U h1 h2 => ⟨rfl, hpre U h1 h2⟩⟩ rfl hn rfl hst (lv_room hW) hdg hf
theorem bc_runS (hx : p.tables.exec = Jvm.exec) (hb : c.code = cc) (hml : c.maxLocals = ls.size) (hown : s.vm.findClass own = some m.cls) (hts : ∀ w ∈ ws_all, w.before args s = true) (hM : Met l y (wc y bytes maxL ret) rm (va_Pc As Pw) Qc mc ms free)
    (hcd : Cond.code y bytes maxL ret ∈ ws_all) (hlk : Cond.methodLink own index y ∈ ws_all) (hst' : Cond.static y ∈ ws_all) (hini : Cond.initialized y.cls ∈ ws_all)
    (hd : y.cls ≠ "java/lang/invoke/MethodHandle" ∧ y.cls ≠ "java/lang/invoke/VarHandle" ∧ (parseMethodDescriptor y.desc).map (fun d => d.parameters.length) = some nA) (hn : As.length = nA) (hrm : rm.cells = mc ∧ rm.slots = ms) (hR : rm.frames + 1 ≤ R.frames ∧ 8 + (maxL + 11) + rm.locals ≤ R.locals)
    (hbl : ∀ (U : State) (g : JFrame) (mk : MethodId) (a : Array Value), Pw U → Pw (U.calling g mk a)) (hpre : ∀ U : State, U.heap = H → s.WarmedH U.vm → Pw U)
    (hst : st0 = As.reverse ++ rest) (hW : (rest.map fun v => v.category).sum ≤ 8) (hdg : decode cc pc = .ok (.invokestatic index, 3)) (hf : cells + mc ≤ R.cells ∧ slots + ms ≤ R.slots) :
    va_Run p l e R s m args below meth c H locs cells slots mc ms (F0 m pc ls st0) rest (Qc As.toArray) free :=
  va_runS ⟨hx, hb, hml, hown, hts⟩ hM (va_cwS nA hts (goodS hlk hst' hini hcd) rfl hrm.1 hrm.2 hd hR) ⟨bBlind hbl, fun U h1 h2 => ⟨rfl, hpre U h1 h2⟩⟩ rfl hn rfl hst (lv_room hW) hdg hf
theorem bc_runI (hx : p.tables.exec = Jvm.exec) (hb : c.code = cc) (hml : c.maxLocals = ls.size) (hown : s.vm.findClass own = some m.cls) (hts : ∀ w ∈ ws_all, w.before args s = true) (hM : Met l y (wc y bytes maxL none) rm (va_Pc (.ref b :: As) Pw) Qc mc ms free)
    (hcd : Cond.code y bytes maxL none ∈ ws_all) (hlk : Cond.methodLink own index y ∈ ws_all) (hin : Cond.instanceMethod y ∈ ws_all) (hini : Cond.initialized y.cls ∈ ws_all) (hy1 : y.name = "<init>")
    (hd : y.cls ≠ "java/lang/invoke/MethodHandle" ∧ y.cls ≠ "java/lang/invoke/VarHandle" ∧ (parseMethodDescriptor y.desc).map (fun d => d.parameters.length) = some nA) (hn : As.length = nA) (hrm : rm.cells = mc ∧ rm.slots = ms) (hR : rm.frames + 1 ≤ R.frames ∧ 8 + (maxL + 11) + rm.locals ≤ R.locals)
    (hbl : ∀ (U : State) (g : JFrame) (mk : MethodId) (a : Array Value), Pw U → Pw (U.calling g mk a)) (hpre : ∀ U : State, U.heap = H → s.WarmedH U.vm → Pw U)
    (hst : st0 = As.reverse ++ .ref b :: rest) (hW : (rest.map fun v => v.category).sum ≤ 8) (hdg : decode cc pc = .ok (.invokespecial index, 3)) (hf : cells + mc ≤ R.cells ∧ slots + ms ≤ R.slots) :
    va_Run p l e R s m args below meth c H locs cells slots mc ms (F0 m pc ls st0) rest (Qc (Value.ref b :: As).toArray) free :=
  va_runI ⟨hx, hb, hml, hown, hts⟩ hM (cwI nA hts (goodAll hcd) rfl hrm.1 hrm.2 (hts _ hini) (hts _ hlk) (hts _ hin) hy1 hd hR) ⟨bBlind hbl, fun U h1 h2 => ⟨rfl, hpre U h1 h2⟩⟩ rfl hn rfl hst (lv_room hW) hdg hf
theorem bc_runVN {host : String} (hx : p.tables.exec = Jvm.exec) (hb : c.code = cc) (hml : c.maxLocals = ls.size) (hown : s.vm.findClass own = some m.cls) (hts : ∀ w ∈ ws_all, w.before args s = true) (hM : Met l y (wc y bytes maxL ret) rm (va_Pc (.ref b :: As) Pw) Qc mc ms free)
    (hcd : Cond.code y bytes maxL ret ∈ ws_all) (hlk : va_Nw (.methodLinkNest own index y host) s) (hin : Cond.instanceMethod y ∈ ws_all) (hse : Cond.selects C y y ∈ ws_all) (hini : Cond.initialized y.cls ∈ ws_all)
    (hd : y.cls ≠ "java/lang/invoke/MethodHandle" ∧ y.cls ≠ "java/lang/invoke/VarHandle" ∧ (parseMethodDescriptor y.desc).map (fun d => d.parameters.length) = some nA) (hn : As.length = nA) (hrm : rm.cells = mc ∧ rm.slots = ms) (hR : rm.frames + 1 ≤ R.frames ∧ 8 + (maxL + 11) + rm.locals ≤ R.locals)
    (hbl : ∀ (U : State) (g : JFrame) (mk : MethodId) (a : Array Value), Pw U → Pw (U.calling g mk a)) (hrv : ∃ cellB : Cell, H[b]? = some cellB ∧ cellB.vm.isStatics = false ∧ s.vm.findClass C = some cellB.cls) (hpre : ∀ U : State, U.heap = H → s.WarmedH U.vm → Pw U)
    (hst : st0 = As.reverse ++ .ref b :: rest) (hW : (rest.map fun v => v.category).sum ≤ 8) (hdg : decode cc pc = .ok (.invokevirtual index, 3)) (hf : cells + mc ≤ R.cells ∧ slots + ms ≤ R.slots) :
    va_Run p l e R s m args below meth c H locs cells slots mc ms (F0 m pc ls st0) rest (Qc (Value.ref b :: As).toArray) free :=
  va_runVN (C := C) (host := host) ⟨hx, hb, hml, hown, hts⟩ hM ⟨va_cnB nA hts (goodAll hcd) rfl hrm.1 hrm.2 hlk (hts _ hini) hd hR, hts _ hin, hts _ hse⟩ ⟨bBlind hbl, hrv, fun U h1 h2 => ⟨rfl, hpre U h1 h2⟩⟩ rfl hn rfl hst (lv_room hW) hdg hf
theorem bc_runSN {host : String} (hx : p.tables.exec = Jvm.exec) (hb : c.code = cc) (hml : c.maxLocals = ls.size) (hown : s.vm.findClass own = some m.cls) (hts : ∀ w ∈ ws_all, w.before args s = true) (hM : Met l y (wc y bytes maxL ret) rm (va_Pc As Pw) Qc mc ms free)
    (hcd : Cond.code y bytes maxL ret ∈ ws_all) (hlk : va_Nw (.methodLinkNest own index y host) s) (hst' : Cond.static y ∈ ws_all) (hini : Cond.initialized y.cls ∈ ws_all)
    (hd : y.cls ≠ "java/lang/invoke/MethodHandle" ∧ y.cls ≠ "java/lang/invoke/VarHandle" ∧ (parseMethodDescriptor y.desc).map (fun d => d.parameters.length) = some nA) (hn : As.length = nA) (hrm : rm.cells = mc ∧ rm.slots = ms) (hR : rm.frames + 1 ≤ R.frames ∧ 8 + (maxL + 11) + rm.locals ≤ R.locals)
    (hbl : ∀ (U : State) (g : JFrame) (mk : MethodId) (a : Array Value), Pw U → Pw (U.calling g mk a)) (hpre : ∀ U : State, U.heap = H → s.WarmedH U.vm → Pw U)
    (hst : st0 = As.reverse ++ rest) (hW : (rest.map fun v => v.category).sum ≤ 8) (hdg : decode cc pc = .ok (.invokestatic index, 3)) (hf : cells + mc ≤ R.cells ∧ slots + ms ≤ R.slots) :
    va_Run p l e R s m args below meth c H locs cells slots mc ms (F0 m pc ls st0) rest (Qc As.toArray) free :=
  va_runSN (host := host) ⟨hx, hb, hml, hown, hts⟩ hM ⟨va_cnB nA hts (goodAll hcd) rfl hrm.1 hrm.2 hlk (hts _ hini) hd hR, hts _ hst', trivial⟩ ⟨bBlind hbl, fun U h1 h2 => ⟨rfl, hpre U h1 h2⟩⟩ rfl hn rfl hst (lv_room hW) hdg hf
theorem bc_runIN {host : String} (hx : p.tables.exec = Jvm.exec) (hb : c.code = cc) (hml : c.maxLocals = ls.size) (hown : s.vm.findClass own = some m.cls) (hts : ∀ w ∈ ws_all, w.before args s = true) (hM : Met l y (wc y bytes maxL none) rm (va_Pc (.ref b :: As) Pw) Qc mc ms free)
    (hcd : Cond.code y bytes maxL none ∈ ws_all) (hlk : va_Nw (.methodLinkNest own index y host) s) (hin : Cond.instanceMethod y ∈ ws_all) (hini : Cond.initialized y.cls ∈ ws_all) (hy1 : y.name = "<init>")
    (hd : y.cls ≠ "java/lang/invoke/MethodHandle" ∧ y.cls ≠ "java/lang/invoke/VarHandle" ∧ (parseMethodDescriptor y.desc).map (fun d => d.parameters.length) = some nA) (hn : As.length = nA) (hrm : rm.cells = mc ∧ rm.slots = ms) (hR : rm.frames + 1 ≤ R.frames ∧ 8 + (maxL + 11) + rm.locals ≤ R.locals)
    (hbl : ∀ (U : State) (g : JFrame) (mk : MethodId) (a : Array Value), Pw U → Pw (U.calling g mk a)) (hpre : ∀ U : State, U.heap = H → s.WarmedH U.vm → Pw U)
    (hst : st0 = As.reverse ++ .ref b :: rest) (hW : (rest.map fun v => v.category).sum ≤ 8) (hdg : decode cc pc = .ok (.invokespecial index, 3)) (hf : cells + mc ≤ R.cells ∧ slots + ms ≤ R.slots) :
    va_Run p l e R s m args below meth c H locs cells slots mc ms (F0 m pc ls st0) rest (Qc (Value.ref b :: As).toArray) free :=
  va_runIN (host := host) ⟨hx, hb, hml, hown, hts⟩ hM ⟨va_cnB nA hts (goodAll hcd) rfl hrm.1 hrm.2 hlk (hts _ hini) hd hR, hy1, hts _ hin⟩ ⟨bBlind hbl, fun U h1 h2 => ⟨rfl, hpre U h1 h2⟩⟩ rfl hn rfl hst (lv_room hW) hdg hf
/-- a method's answers over a block: what it may have changed is the block and what is new -/
abbrev bQi {ρ : Type} (D : va_G) (ad : Nat → Nat) (n : Nat) (cell : Nat → ρ → va_E) (sz : Nat) (post : Int32 → (Nat → ρ) → Prop) : Array Value → State → Outcome → State → Prop := va_Qi post (fun M1 t => va_P D cls3 (bw ad n (fun j => cell j (M1 j))) t.heap) (bw_A ad n sz)
abbrev bQl {ρ : Type} (D : va_G) (ad : Nat → Nat) (n : Nat) (cell : Nat → ρ → va_E) (sz : Nat) (post : Int64 → (Nat → ρ) → Prop) : Array Value → State → Outcome → State → Prop := va_Ql post (fun M1 t => va_P D cls3 (bw ad n (fun j => cell j (M1 j))) t.heap) (bw_A ad n sz)
abbrev bQv {ρ : Type} (D : va_G) (ad : Nat → Nat) (n : Nat) (cell : Nat → ρ → va_E) (sz : Nat) (post : (Nat → ρ) → Prop) : Array Value → State → Outcome → State → Prop := va_Qv post (fun M1 t => va_P D cls3 (bw ad n (fun j => cell j (M1 j))) t.heap) (bw_A ad n sz)
abbrev bQr {ρ : Type} (D : va_G) (ad : Nat → Nat) (n : Nat) (cell : Nat → ρ → va_E) (sz : Nat) (ra : Nat) (post : (Nat → ρ) → Prop) : Array Value → State → Outcome → State → Prop := va_Qr post (fun M1 a t => a = ra ∧ va_P D cls3 (bw ad n (fun j => cell j (M1 j))) t.heap) (bw_A ad n sz)
variable {ρ : Type} {cell : Nat → ρ → va_E} {a : Array Value}
theorem bc_calli {post : Int32 → (Nat → ρ) → Prop} (hr : va_Run p l e R s m args below meth c H locs cells slots mc ms (F0 m pc ls st0) rest (bQi D ad n cell H.size post a) (bw_A ad n H.size)) (hS : va_S (bw_A ad n s.heap.size) s.heap H locs)
    (kk : ∀ (r : Int32) (M1 : Nat → ρ) (H1 : Heap) (locs1 : List Loc), post r M1 → va_P D cls3 (bw ad n (fun j => cell j (M1 j))) H1 → va_S (bw_A ad n s.heap.size) s.heap H1 locs1 → W p l e R s m args below meth c H1 locs1 (cells + mc) (slots + ms) Q (F0 m (pc + 3) ls (.int r :: rest))) : W p l e R s m args below meth c H locs cells slots Q (F0 m pc ls st0) :=
  va_calli hr hS (fun _ _ h => bw_A_mono hS.1 h) (fun _ h => bw_A_mono hS.1 h) (fun r u t H1 locs1 ht _ hw hB _ _ hS1 => kk r u H1 locs1 hw (by rw [← ht]; exact hB) hS1)
theorem bc_calll {post : Int64 → (Nat → ρ) → Prop} (hr : va_Run p l e R s m args below meth c H locs cells slots mc ms (F0 m pc ls st0) rest (bQl D ad n cell H.size post a) (bw_A ad n H.size)) (hS : va_S (bw_A ad n s.heap.size) s.heap H locs)
    (kk : ∀ (r : Int64) (M1 : Nat → ρ) (H1 : Heap) (locs1 : List Loc), post r M1 → va_P D cls3 (bw ad n (fun j => cell j (M1 j))) H1 → va_S (bw_A ad n s.heap.size) s.heap H1 locs1 → W p l e R s m args below meth c H1 locs1 (cells + mc) (slots + ms) Q (F0 m (pc + 3) ls (.long r :: rest))) : W p l e R s m args below meth c H locs cells slots Q (F0 m pc ls st0) :=
  va_calll hr hS (fun _ _ h => bw_A_mono hS.1 h) (fun _ h => bw_A_mono hS.1 h) (fun r u t H1 locs1 ht _ hw hB _ _ hS1 => kk r u H1 locs1 hw (by rw [← ht]; exact hB) hS1)
theorem bc_callv {post : (Nat → ρ) → Prop} (hr : va_Run p l e R s m args below meth c H locs cells slots mc ms (F0 m pc ls st0) rest (bQv D ad n cell H.size post a) (bw_A ad n H.size)) (hS : va_S (bw_A ad n s.heap.size) s.heap H locs)
    (kk : ∀ (M1 : Nat → ρ) (H1 : Heap) (locs1 : List Loc), post M1 → va_P D cls3 (bw ad n (fun j => cell j (M1 j))) H1 → va_S (bw_A ad n s.heap.size) s.heap H1 locs1 → W p l e R s m args below meth c H1 locs1 (cells + mc) (slots + ms) Q (F0 m (pc + 3) ls rest)) : W p l e R s m args below meth c H locs cells slots Q (F0 m pc ls st0) :=
  va_callv hr hS (fun _ _ h => bw_A_mono hS.1 h) (fun _ h => bw_A_mono hS.1 h) (fun u t H1 locs1 ht _ hw hB _ _ hS1 => kk u H1 locs1 hw (by rw [← ht]; exact hB) hS1)
theorem bc_callr {ra : Nat} {post : (Nat → ρ) → Prop} (hr : va_Run p l e R s m args below meth c H locs cells slots mc ms (F0 m pc ls st0) rest (bQr D ad n cell H.size ra post a) (bw_A ad n H.size)) (hS : va_S (bw_A ad n s.heap.size) s.heap H locs)
    (kk : ∀ (M1 : Nat → ρ) (H1 : Heap) (locs1 : List Loc), post M1 → va_P D cls3 (bw ad n (fun j => cell j (M1 j))) H1 → va_S (bw_A ad n s.heap.size) s.heap H1 locs1 → W p l e R s m args below meth c H1 locs1 (cells + mc) (slots + ms) Q (F0 m (pc + 3) ls (.ref ra :: rest))) : W p l e R s m args below meth c H locs cells slots Q (F0 m pc ls st0) :=
  va_callr hr hS (fun _ _ h => bw_A_mono hS.1 h) (fun _ h => bw_A_mono hS.1 h) (fun u a' t H1 locs1 ht _ hw hB _ _ hS1 => by
    obtain ⟨rfl, hB⟩ := hB
    exact kk u H1 locs1 hw (by rw [← ht]; exact hB) hS1)
/-- the receiver of a call on the object at place q -/
theorem bc_recv {f : Nat → va_E} (hE : bE D tys s) (hP : va_P D cls3 (bw ad n f) H) (q : Nat) (hq : q < n) {ci : Nat} {fs : List Value} (hf : f q = .inr (ci, fs)) {r : vw_C} (hc : cls3[ci]? = some r) : ∃ cellB : Cell, H[ad q]? = some cellB ∧ cellB.vm.isStatics = false ∧ s.vm.findClass r.1 = some cellB.cls :=
  va_recv hE.1 hP hc (bw_at hq hf)
/-- ends -/
theorem bc_ireti {post : Int32 → (Nat → ρ) → Prop} {M1 : Nat → ρ} {v : Int32} (hx : p.tables.exec = Jvm.exec) (hb : c.code = cc) (hr : meth.sig.returnType = some .int) (hlocks : meth.locks = false) (hP : va_P D cls3 (bw ad n (fun j => cell j (M1 j))) H) (hS : va_S (bw_A ad n s.heap.size) s.heap H locs) (hp : post v M1) (hdg : decode cc pc = .ok (.ireturn, 1)) :
    W p l e R s m args below meth c H locs cells slots (MQ below (bQi D ad n cell s.heap.size post) args s cells slots (bw_A ad n s.heap.size)) (F0 m pc ls [.int v]) :=
  W.iret (v := v) hx hb hr (fun t ht hW => ⟨⟨v, M1, rfl, hp, by show va_P _ _ _ t.heap; rw [ht]; exact hP⟩, hS.F ht⟩) hS.2.2 hdg
theorem bc_vret {post : (Nat → ρ) → Prop} {M1 : Nat → ρ} (hx : p.tables.exec = Jvm.exec) (hb : c.code = cc) (hr : meth.sig.returnType = none) (hlocks : meth.locks = false) (hP : va_P D cls3 (bw ad n (fun j => cell j (M1 j))) H) (hS : va_S (bw_A ad n s.heap.size) s.heap H locs) (hp : post M1) (hdg : decode cc pc = .ok (.return_, 1)) :
    W p l e R s m args below meth c H locs cells slots (MQ below (bQv D ad n cell s.heap.size post) args s cells slots (bw_A ad n s.heap.size)) (F0 m pc ls []) :=
  W.vret hx hb hr (fun t ht hW => ⟨⟨M1, rfl, hp, by show va_P _ _ _ t.heap; rw [ht]; exact hP⟩, hS.F ht⟩) hS.2.2 hdg
end BC
end
section
/-! rows over numbers that are counted (nI), and over arrays at such places -/
section LN
variable {p : Program} {l : Launch} {e : Env} {R : Room} {s : State} {m : MethodId} {args : Array Value} {below : List Frame} {meth : Method} {c : Code} {H : Heap} {locs : List Loc} {cells slots : Nat} {Q : State → Prop}
variable {cc : ByteArray} {pc : Nat} {ls : Array Slot} {rest : List Value} {D : va_G} {tys : List (ClassId × FieldType)} {ad : Nat → Nat} {n : Nat}
theorem ln_iadd (hx : p.tables.exec = Jvm.exec) (hb : c.code = cc) {a b : Nat} (hdg : decode cc pc = .ok (.iadd, 1)) (k : W p l e R s m args below meth c H locs cells slots Q (F0 m (pc + 1) ls (.int (nI (a + b)) :: rest))) : W p l e R s m args below meth c H locs cells slots Q (F0 m pc ls (.int (nI b) :: .int (nI a) :: rest)) := by
  refine lv_iadd hx hb hdg ?_
  rw [nI_add]
  exact k
theorem ln_imul (hx : p.tables.exec = Jvm.exec) (hb : c.code = cc) {a b : Nat} (hdg : decode cc pc = .ok (.imul, 1)) (k : W p l e R s m args below meth c H locs cells slots Q (F0 m (pc + 1) ls (.int (nI (a * b)) :: rest))) : W p l e R s m args below meth c H locs cells slots Q (F0 m pc ls (.int (nI b) :: .int (nI a) :: rest)) := by
  refine lv_imul hx hb hdg ?_
  rw [pk_mul]
  exact k
theorem ln_isub (hx : p.tables.exec = Jvm.exec) (hb : c.code = cc) {a b : Nat} (hdg : decode cc pc = .ok (.isub, 1)) (h : b ≤ a) (k : W p l e R s m args below meth c H locs cells slots Q (F0 m (pc + 1) ls (.int (nI (a - b)) :: rest))) : W p l e R s m args below meth c H locs cells slots Q (F0 m pc ls (.int (nI b) :: .int (nI a) :: rest)) := by
  refine lv_isub hx hb hdg ?_
  rw [pk_sub h]
  exact k
theorem ln_icmp_ge (hx : p.tables.exec = Jvm.exec) (hb : c.code = cc) {x y : Nat} {off : Int} {tgt : Nat} (hdg : decode cc pc = .ok (.if_icmp .ge off, 3)) (ht : (pc : Int) + off = (tgt : Int)) (h1 : x < 2147483648) (h2 : y < 2147483648) (kt : y ≤ x → W p l e R s m args below meth c H locs cells slots Q (F0 m tgt ls rest)) (kf : x < y → W p l e R s m args below meth c H locs cells slots Q (F0 m (pc + 3) ls rest)) : W p l e R s m args below meth c H locs cells slots Q (F0 m pc ls (.int (nI y) :: .int (nI x) :: rest)) :=
  lv_icmp_ge hx hb hdg ht (fun q => kt ((nI_leI h2 h1).mp q)) (fun q => kf (Nat.not_le.mp (fun z => q ((nI_leI h2 h1).mpr z))))
theorem ln_icmp_lt (hx : p.tables.exec = Jvm.exec) (hb : c.code = cc) {x y : Nat} {off : Int} {tgt : Nat} (hdg : decode cc pc = .ok (.if_icmp .lt off, 3)) (ht : (pc : Int) + off = (tgt : Int)) (h1 : x < 2147483648) (h2 : y < 2147483648) (kt : x < y → W p l e R s m args below meth c H locs cells slots Q (F0 m tgt ls rest)) (kf : y ≤ x → W p l e R s m args below meth c H locs cells slots Q (F0 m (pc + 3) ls rest)) : W p l e R s m args below meth c H locs cells slots Q (F0 m pc ls (.int (nI y) :: .int (nI x) :: rest)) :=
  lv_icmp_lt hx hb hdg ht (fun q => kt ((nI_ltI h1 h2).mp q)) (fun q => kf (Nat.not_lt.mp (fun z => q ((nI_ltI h1 h2).mpr z))))
theorem ln_icmp_gt (hx : p.tables.exec = Jvm.exec) (hb : c.code = cc) {x y : Nat} {off : Int} {tgt : Nat} (hdg : decode cc pc = .ok (.if_icmp .gt off, 3)) (ht : (pc : Int) + off = (tgt : Int)) (h1 : x < 2147483648) (h2 : y < 2147483648) (kt : y < x → W p l e R s m args below meth c H locs cells slots Q (F0 m tgt ls rest)) (kf : x ≤ y → W p l e R s m args below meth c H locs cells slots Q (F0 m (pc + 3) ls rest)) : W p l e R s m args below meth c H locs cells slots Q (F0 m pc ls (.int (nI y) :: .int (nI x) :: rest)) :=
  lv_icmp_gt hx hb hdg ht (fun q => kt ((nI_ltI h2 h1).mp q)) (fun q => kf (Nat.not_lt.mp (fun z => q ((nI_ltI h2 h1).mpr z))))
theorem ln_icmp_le (hx : p.tables.exec = Jvm.exec) (hb : c.code = cc) {x y : Nat} {off : Int} {tgt : Nat} (hdg : decode cc pc = .ok (.if_icmp .le off, 3)) (ht : (pc : Int) + off = (tgt : Int)) (h1 : x < 2147483648) (h2 : y < 2147483648) (kt : x ≤ y → W p l e R s m args below meth c H locs cells slots Q (F0 m tgt ls rest)) (kf : y < x → W p l e R s m args below meth c H locs cells slots Q (F0 m (pc + 3) ls rest)) : W p l e R s m args below meth c H locs cells slots Q (F0 m pc ls (.int (nI y) :: .int (nI x) :: rest)) :=
  lv_icmp_le hx hb hdg ht (fun q => kt ((nI_leI h1 h2).mp q)) (fun q => kf (Nat.not_le.mp (fun z => q ((nI_leI h1 h2).mpr z))))
theorem ln_icmp_eq (hx : p.tables.exec = Jvm.exec) (hb : c.code = cc) {x y : Nat} {off : Int} {tgt : Nat} (hdg : decode cc pc = .ok (.if_icmp .eq off, 3)) (ht : (pc : Int) + off = (tgt : Int)) (h1 : x < 2147483648) (h2 : y < 2147483648) (kt : x = y → W p l e R s m args below meth c H locs cells slots Q (F0 m tgt ls rest)) (kf : x ≠ y → W p l e R s m args below meth c H locs cells slots Q (F0 m (pc + 3) ls rest)) : W p l e R s m args below meth c H locs cells slots Q (F0 m pc ls (.int (nI y) :: .int (nI x) :: rest)) :=
  lv_icmp_eq hx hb hdg ht (fun q => kt ((nI_eq h1 h2).mp q)) (fun q => kf (fun z => q ((nI_eq h1 h2).mpr z)))
theorem ln_icmp_ne (hx : p.tables.exec = Jvm.exec) (hb : c.code = cc) {x y : Nat} {off : Int} {tgt : Nat} (hdg : decode cc pc = .ok (.if_icmp .ne off, 3)) (ht : (pc : Int) + off = (tgt : Int)) (h1 : x < 2147483648) (h2 : y < 2147483648) (kt : x ≠ y → W p l e R s m args below meth c H locs cells slots Q (F0 m tgt ls rest)) (kf : x = y → W p l e R s m args below meth c H locs cells slots Q (F0 m (pc + 3) ls rest)) : W p l e R s m args below meth c H locs cells slots Q (F0 m pc ls (.int (nI y) :: .int (nI x) :: rest)) :=
  lv_icmp_ne hx hb hdg ht (fun q => kt (fun z => q ((nI_eq h1 h2).mpr z))) (fun q => kf ((nI_eq h1 h2).mp q))
theorem ln_iald {f : Nat → va_E} (hx : p.tables.exec = Jvm.exec) (hb : c.code = cc) (hE : bE D tys s) (hP : va_P D cls3 (bw ad n f) H) (q t0 : Nat) (hq : q < n) {cA : ClassId} {L : Nat} {g : Nat → Int32} (hf : f q = .inl (cA, L, .inl g)) (ht : tys[t0]? = some (cA, .int)) {i : Nat} (hi : i < L) (hL : L < 2147483648) (hdg : decode cc pc = .ok (.iaload, 1))
    (kk : W p l e R s m args below meth c H locs cells slots Q (F0 m (pc + 1) ls (.int (g i) :: rest))) : W p l e R s m args below meth c H locs cells slots Q (F0 m pc ls (.int (nI i) :: .ref (ad q) :: rest)) := by
  refine bw_iald hx hb hE hP q t0 hq hf ht (vp_in_nI hi hL) hdg ?_
  rw [nI_clamp (Nat.lt_trans hi hL)]
  exact kk
theorem ln_zald {f : Nat → va_E} (hx : p.tables.exec = Jvm.exec) (hb : c.code = cc) (hE : bE D tys s) (hP : va_P D cls3 (bw ad n f) H) (q t0 : Nat) (hq : q < n) {cA : ClassId} {L : Nat} {g : Nat → Int32} (hf : f q = .inl (cA, L, .inl g)) (ht : tys[t0]? = some (cA, .boolean)) {i : Nat} (hi : i < L) (hL : L < 2147483648) (hdg : decode cc pc = .ok (.baload, 1))
    (kk : W p l e R s m args below meth c H locs cells slots Q (F0 m (pc + 1) ls (.int (g i) :: rest))) : W p l e R s m args below meth c H locs cells slots Q (F0 m pc ls (.int (nI i) :: .ref (ad q) :: rest)) := by
  refine bw_zald hx hb hE hP q t0 hq hf ht (vp_in_nI hi hL) hdg ?_
  rw [nI_clamp (Nat.lt_trans hi hL)]
  exact kk
theorem ln_lald {f : Nat → va_E} (hx : p.tables.exec = Jvm.exec) (hb : c.code = cc) (hE : bE D tys s) (hP : va_P D cls3 (bw ad n f) H) (q t0 : Nat) (hq : q < n) {cA : ClassId} {L : Nat} {g : Nat → Int64} (hf : f q = .inl (cA, L, .inr (.inl g))) (ht : tys[t0]? = some (cA, .long)) {i : Nat} (hi : i < L) (hL : L < 2147483648) (hdg : decode cc pc = .ok (.laload, 1))
    (kk : W p l e R s m args below meth c H locs cells slots Q (F0 m (pc + 1) ls (.long (g i) :: rest))) : W p l e R s m args below meth c H locs cells slots Q (F0 m pc ls (.int (nI i) :: .ref (ad q) :: rest)) := by
  refine bw_lald hx hb hE hP q t0 hq hf ht (vp_in_nI hi hL) hdg ?_
  rw [nI_clamp (Nat.lt_trans hi hL)]
  exact kk
theorem ln_aald {f : Nat → va_E} (hx : p.tables.exec = Jvm.exec) (hb : c.code = cc) (hE : bE D tys s) (hP : va_P D cls3 (bw ad n f) H) (q t0 : Nat) (hq : q < n) {cA : ClassId} {L : Nat} {g : Nat → Option Nat} (hf : f q = .inl (cA, L, .inr (.inr (.inr (.inr g))))) (ht : tys[t0]? = some (cA, .array .int)) {i : Nat} (hi : i < L) (hL : L < 2147483648) {a : Nat} (hg : g i = some a) (hdg : decode cc pc = .ok (.aaload, 1))
    (kk : W p l e R s m args below meth c H locs cells slots Q (F0 m (pc + 1) ls (.ref a :: rest))) : W p l e R s m args below meth c H locs cells slots Q (F0 m pc ls (.int (nI i) :: .ref (ad q) :: rest)) :=
  bw_aald hx hb hE hP q t0 hq hf ht (vp_in_nI hi hL) (by rw [nI_clamp (Nat.lt_trans hi hL)]; exact hg) hdg kk
theorem ln_iast {ρ : Type} {cell : Nat → ρ → va_E} {M : Nat → ρ} (hx : p.tables.exec = Jvm.exec) (hb : c.code = cc) (hE : bE D tys s) (hI : bw_I ad n) (hP : va_P D cls3 (bw ad n (fun j => cell j (M j))) H) (hS : va_S (bw_A ad n s.heap.size) s.heap H locs) (q t0 : Nat) (hq : q < n) {cA : ClassId} {L : Nat} {g : Nat → Int32} (hf : cell q (M q) = .inl (cA, L, .inl g)) (ht : tys[t0]? = some (cA, .int)) {i : Nat} {x : Int32} (hi : i < L) (hL : L < 2147483648) (r : ρ) (hf' : cell q r = .inl (cA, L, .inl (upd g i x))) (hdg : decode cc pc = .ok (.iastore, 1))
    (kk : ∀ (M1 : Nat → ρ) (H1 : Heap) (locs1 : List Loc), M1 = va_up M q r → va_P D cls3 (bw ad n (fun j => cell j (M1 j))) H1 → va_S (bw_A ad n s.heap.size) s.heap H1 locs1 → W p l e R s m args below meth c H1 locs1 cells slots Q (F0 m (pc + 1) ls rest)) : W p l e R s m args below meth c H locs cells slots Q (F0 m pc ls (.int x :: .int (nI i) :: .ref (ad q) :: rest)) :=
  bw_iast hx hb hE hI hP hS q t0 hq hf ht (vp_in_nI hi hL) r (by rw [nI_clamp (Nat.lt_trans hi hL)]; exact hf') hdg kk
theorem ln_zast {ρ : Type} {cell : Nat → ρ → va_E} {M : Nat → ρ} (hx : p.tables.exec = Jvm.exec) (hb : c.code = cc) (hE : bE D tys s) (hI : bw_I ad n) (hP : va_P D cls3 (bw ad n (fun j => cell j (M j))) H) (hS : va_S (bw_A ad n s.heap.size) s.heap H locs) (q t0 : Nat) (hq : q < n) {cA : ClassId} {L : Nat} {g : Nat → Int32} (hf : cell q (M q) = .inl (cA, L, .inl g)) (ht : tys[t0]? = some (cA, .boolean)) {i : Nat} {x : Int32} (hi : i < L) (hL : L < 2147483648) (r : ρ) (hf' : cell q r = .inl (cA, L, .inl (upd g i (vp_nar .boolean x)))) (hdg : decode cc pc = .ok (.bastore, 1))
    (kk : ∀ (M1 : Nat → ρ) (H1 : Heap) (locs1 : List Loc), M1 = va_up M q r → va_P D cls3 (bw ad n (fun j => cell j (M1 j))) H1 → va_S (bw_A ad n s.heap.size) s.heap H1 locs1 → W p l e R s m args below meth c H1 locs1 cells slots Q (F0 m (pc + 1) ls rest)) : W p l e R s m args below meth c H locs cells slots Q (F0 m pc ls (.int x :: .int (nI i) :: .ref (ad q) :: rest)) :=
  bw_zast hx hb hE hI hP hS q t0 hq hf ht (vp_in_nI hi hL) r (by rw [nI_clamp (Nat.lt_trans hi hL)]; exact hf') hdg kk
theorem ln_last {ρ : Type} {cell : Nat → ρ → va_E} {M : Nat → ρ} (hx : p.tables.exec = Jvm.exec) (hb : c.code = cc) (hE : bE D tys s) (hI : bw_I ad n) (hP : va_P D cls3 (bw ad n (fun j => cell j (M j))) H) (hS : va_S (bw_A ad n s.heap.size) s.heap H locs) (q t0 : Nat) (hq : q < n) {cA : ClassId} {L : Nat} {g : Nat → Int64} (hf : cell q (M q) = .inl (cA, L, .inr (.inl g))) (ht : tys[t0]? = some (cA, .long)) {i : Nat} {x : Int64} (hi : i < L) (hL : L < 2147483648) (r : ρ) (hf' : cell q r = .inl (cA, L, .inr (.inl (vp_updL g i x)))) (hdg : decode cc pc = .ok (.lastore, 1))
    (kk : ∀ (M1 : Nat → ρ) (H1 : Heap) (locs1 : List Loc), M1 = va_up M q r → va_P D cls3 (bw ad n (fun j => cell j (M1 j))) H1 → va_S (bw_A ad n s.heap.size) s.heap H1 locs1 → W p l e R s m args below meth c H1 locs1 cells slots Q (F0 m (pc + 1) ls rest)) : W p l e R s m args below meth c H locs cells slots Q (F0 m pc ls (.long x :: .int (nI i) :: .ref (ad q) :: rest)) :=
  bw_last hx hb hE hI hP hS q t0 hq hf ht (vp_in_nI hi hL) r (by rw [nI_clamp (Nat.lt_trans hi hL)]; exact hf') hdg kk
theorem ln_if_le (hx : p.tables.exec = Jvm.exec) (hb : c.code = cc) {x : Nat} {off : Int} {tgt : Nat} (hdg : decode cc pc = .ok (.ifCond .le off, 3)) (ht : (pc : Int) + off = (tgt : Int)) (h1 : x < 2147483648) (kt : x = 0 → W p l e R s m args below meth c H locs cells slots Q (F0 m tgt ls rest)) (kf : 0 < x → W p l e R s m args below meth c H locs cells slots Q (F0 m (pc + 3) ls rest)) : W p l e R s m args below meth c H locs cells slots Q (F0 m pc ls (.int (nI x) :: rest)) :=
  lv_if_le hx hb hdg ht (fun q => kt (Nat.eq_zero_of_not_pos (fun z => nI_nle z h1 q))) (fun q => kf (Nat.pos_of_ne_zero (fun z => q (by rw [z]; decide))))
theorem ln_if_lt (hx : p.tables.exec = Jvm.exec) (hb : c.code = cc) {x : Nat} {off : Int} {tgt : Nat} (hdg : decode cc pc = .ok (.ifCond .lt off, 3)) (ht : (pc : Int) + off = (tgt : Int)) (h1 : x < 2147483648) (kf : W p l e R s m args below meth c H locs cells slots Q (F0 m (pc + 3) ls rest)) : W p l e R s m args below meth c H locs cells slots Q (F0 m pc ls (.int (nI x) :: rest)) :=
  lv_if_lt hx hb hdg ht (fun q => absurd q (nI_pos h1)) (fun _ => kf)
/-- the top of the stack under another name -/
theorem ln_asi {x : Int32} (y : Int32) (h : x = y) (k : W p l e R s m args below meth c H locs cells slots Q (F0 m pc ls (.int y :: rest))) : W p l e R s m args below meth c H locs cells slots Q (F0 m pc ls (.int x :: rest)) := by
  rw [h]
  exact k
theorem ln_asl {x : Int64} (y : Int64) (h : x = y) (k : W p l e R s m args below meth c H locs cells slots Q (F0 m pc ls (.long y :: rest))) : W p l e R s m args below meth c H locs cells slots Q (F0 m pc ls (.long x :: rest)) := by
  rw [h]
  exact k
end LN
/-! THE CLASS'S BLOCK: 162 cells. Place 0: the object; 1 parents, 2 kinds, 3 hidden; 4 numbers, its rows 5 .. 52; 53 locals, its rows 54 .. 101; 102 worlds, its rows 103 .. 150; 151 eye, 152 view, 153 the seen-through flags, 154 depths, 155 order; 156 the turner, 157 .. 161 its matrices. A row r of numbers a place: the ints of the array, or of the object at their field's number. -/
def sc_len (k : Nat) : Nat := if k < 3 then 48 else if k < 53 then 9 else if k < 151 then 12 else if k = 151 then 9 else if k = 152 then 12 else if k < 156 then 48 else 12
def sc_grid (cs : Nat → ClassId) (ad : Nat → Nat) (b : Nat) : va_E := .inl (cs 2, 48, .inr (.inr (.inr (.inr (fun i => if i < 48 then some (ad (b + i)) else none)))))
def sc_cell (cs : Nat → ClassId) (ad : Nat → Nat) (k : Nat) (r : Nat → Int32) : va_E :=
  if k = 0 then .inr (1, [.int (r 0), .ref (ad 1), .ref (ad 2), .ref (ad 3), .ref (ad 4), .ref (ad 53), .ref (ad 102), .int (r 7), .ref (ad 151), .ref (ad 152), .ref (ad 153), .ref (ad 154), .ref (ad 155), .ref (ad 156)])
  else if k = 156 then .inr (0, [.ref (ad 157), .ref (ad 158), .ref (ad 159), .ref (ad 160), .ref (ad 161)])
  else if k = 4 then sc_grid cs ad 5 else if k = 53 then sc_grid cs ad 54 else if k = 102 then sc_grid cs ad 103
  else if k = 3 then .inl (cs 1, 48, .inl r) else if k = 153 then .inl (cs 1, 48, .inl r)
  else .inl (cs 0, sc_len k, .inl r)
/-- the array classes: of ints, of booleans, of arrays of ints, of longs -/
def a_tys (cs : Nat → ClassId) : List (ClassId × FieldType) := [(cs 0, .int), (cs 1, .boolean), (cs 2, .array .int), (cs 3, .long)]
theorem sc_row5 {cs : Nat → ClassId} {ad : Nat → Nat} {j : Nat} {r : Nat → Int32} (h : j < 48) : sc_cell cs ad (5 + j) r = .inl (cs 0, 9, .inl r) := by
  unfold sc_cell sc_len
  rw [if_neg (by omega), if_neg (by omega), if_neg (by omega), if_neg (by omega), if_neg (by omega), if_neg (by omega), if_neg (by omega), if_neg (by omega), if_pos (by omega)]
theorem sc_row54 {cs : Nat → ClassId} {ad : Nat → Nat} {j : Nat} {r : Nat → Int32} (h : j < 48) : sc_cell cs ad (54 + j) r = .inl (cs 0, 12, .inl r) := by
  unfold sc_cell sc_len
  rw [if_neg (by omega), if_neg (by omega), if_neg (by omega), if_neg (by omega), if_neg (by omega), if_neg (by omega), if_neg (by omega), if_neg (by omega), if_neg (by omega), if_pos (by omega)]
theorem sc_row103 {cs : Nat → ClassId} {ad : Nat → Nat} {j : Nat} {r : Nat → Int32} (h : j < 48) : sc_cell cs ad (103 + j) r = .inl (cs 0, 12, .inl r) := by
  unfold sc_cell sc_len
  rw [if_neg (by omega), if_neg (by omega), if_neg (by omega), if_neg (by omega), if_neg (by omega), if_neg (by omega), if_neg (by omega), if_neg (by omega), if_neg (by omega), if_pos (by omega)]
/-- what a method of the class finds at its start -/
abbrev sP (D : va_G) (cs : Nat → ClassId) (ad : Nat → Nat) (M : Nat → Nat → Int32) (sz : Nat) : State → Prop := bPre D (a_tys cs) ad 162 (fun j => sc_cell cs ad j (M j)) sz
/-! THE REFERENCE'S BLOCK: 13 cells. Place 0: the object (thrown, many); 1 parents, 2 kinds, 3 hidden, 4 numbers (441), 5 way; 6 depths; 7 made, 8 left, 9 right, 10 part, 11 own, 12 above. A row: ints and longs. -/
abbrev mRow : Type := (Nat → Int32) × (Nat → Int64)
def mc_cell (cs : Nat → ClassId) (ad : Nat → Nat) (k : Nat) (r : mRow) : va_E :=
  if k = 0 then .inr (2, [.int (r.1 0), .int (r.1 1), .ref (ad 1), .ref (ad 2), .ref (ad 3), .ref (ad 4), .ref (ad 5), .ref (ad 6), .ref (ad 7), .ref (ad 8), .ref (ad 9), .ref (ad 10), .ref (ad 11), .ref (ad 12)])
  else if k = 3 then .inl (cs 1, 48, .inl r.1)
  else if k = 4 then .inl (cs 0, 441, .inl r.1)
  else if k < 6 then .inl (cs 0, 48, .inl r.1)
  else if k = 6 then .inl (cs 3, 48, .inr (.inl r.2))
  else .inl (cs 3, 12, .inr (.inl r.2))
abbrev mP (D : va_G) (cs : Nat → ClassId) (ad : Nat → Nat) (M : Nat → mRow) (sz : Nat) : State → Prop := bPre D (a_tys cs) ad 13 (fun j => mc_cell cs ad j (M j)) sz
end
section
/-! PURE WORDS of the leaves -/
/-- r is 1 where P holds, 0 where not -/
def jb (P : Prop) (r : Int32) : Prop := (r = 1 ∧ P) ∨ (r = 0 ∧ ¬ P)
theorem jb.t {P : Prop} {r : Int32} (h : jb P r) (hr : ¬ r = 0) : P := by
  rcases h with h | h
  · exact h.2
  · exact absurd h.1 hr
theorem jb.f {P : Prop} {r : Int32} (h : jb P r) (hr : r = 0) : ¬ P := by
  rcases h with h | h
  · rw [h.1] at hr; exact absurd hr (by decide)
  · exact h.2
theorem jb.nar {P : Prop} {r : Int32} (h : jb P r) : narrow .boolean (.int r) = .int r := by
  rcases h with h | h <;> rw [h.1] <;> rfl
theorem jb.one {P : Prop} (h : P) : jb P (nI 1) := Or.inl ⟨rfl, h⟩
theorem jb.zero {P : Prop} (h : ¬ P) : jb P (nI 0) := Or.inr ⟨rfl, h⟩
theorem jb.eq {P Q : Prop} {r q : Int32} (h : jb P r) (h' : jb Q q) (hpq : P ↔ Q) : r = q := by
  rcases h with h | h <;> rcases h' with h' | h'
  · rw [h.1, h'.1]
  · exact absurd (hpq.mp h.2) h'.2
  · exact absurd (hpq.mpr h'.2) h.2
  · rw [h.1, h'.1]
def jmul (a b : Int64) : Int64 := (a * b) >>> ((nI 16).toInt64 &&& 63)
def jmin (v : Int64) : Int64 := if v < 16777216 then v else 16777216
def jcl (v : Int64) : Int64 := if jmin v < (-16777216) then (-16777216) else jmin v
def jw (what : Int32) : Int32 := if what = 0 then 4194304 else 1048576
def jcan (w v : Int32) : Prop := -w ≤ v ∧ v ≤ w
def jfm (x y : Int32) : Int32 := if 0 ≤ x ^^^ y then x - x / y * y else if x - x / y * y = 0 then x - x / y * y else x - x / y * y + y
def jfd (x y : Int64) : Int64 := if 0 ≤ lg_cmp (x ^^^ y) 0 then x / y else if lg_cmp (x / y * y) x = 0 then x / y else x / y - 1
def jang (k : Int32) : Int32 := jfm k (nI 4096)
def jhalf (a : Int32) : Int32 := if nI 2048 ≤ a then a - nI 2048 else a
def jp (h : Int32) : Int64 := h.toInt64 * (nI 2048 - h).toInt64
def jdv (p : Int64) : Int64 := 20971520 - 4 * p
def jht (p : Int64) : Int64 := if lg_cmp (jdv p) 0 ≤ 0 then 0 else jfd (1048576 * p) (jdv p)
def jsg (a : Int32) (h : Int64) : Int64 := if nI 2048 ≤ a then -h else h
def jsin (k : Int32) : Int32 := (jsg (jang k) (jht (jp (jhalf (jang k))))).toInt32

set_option maxHeartbeats 4000000 in
set_option maxRecDepth 100000 in
/-- a times b in 65536ths -/
theorem kS_mul (l : Launch) (a b : Int64) : Met l yS_mul (wc yS_mul cS_mul 4 (some .long)) ({ frames := 0, cells := 0, slots := 0, locals := 0 } : Room) (va_Pc [.long a, .long b] (fun _ => True)) (vp_Sl (fun r => r = jmul a b)) 0 0 (fun _ => False) := by
  refine Met.ofW (cc := cS_mul) (maxL := 4) (ret := (some .long)) (by decide +kernel) rfl ?_
  intro p e s m args below meth c s₁ B hml hv
  obtain ⟨rfl, -⟩ := hv
  have hx := B.exec
  have hb := B.bytes
  have hr := B.returns
  have hts : ∀ w9 ∈ ws_all, w9.before ([.long a, .long b] : List Value).toArray s = true := fun w9 h => atoms_spec (ws := (wc yS_mul cS_mul 4 (some .long))) B.pre w9 (List.mem_cons_of_mem _ h)
  have hown : s.vm.findClass RS = some m.cls := findClass_of_methodNamed B.named
  have hlocks := B.notSynchronized
  have hl := lv_entry ([.long a, .long b]) (n := 4) (Nat.le_of_ble_eq_true rfl)
  rw [lg_entry_eq]
  generalize (lg_sl ([.long a, .long b]) ++ List.replicate (4 - (lg_sl ([.long a, .long b])).length) Slot.unset).toArray = ls at hl ⊢
  have hl : lv_has ls 4 [(0, .long a), (2, .long b)] := hl
  refine lv_lload_n hx hb dS_mul_0 rfl (lv_at hl 0 rfl) ?_
  refine lv_lload_n hx hb dS_mul_1 rfl (lv_at hl 1 rfl) ?_
  refine lv_lmul hx hb dS_mul_2 ?_
  refine lv_bipush (v := nI 16) hx hb dS_mul_3 (by decide) ?_
  refine lv_lshr (v := (a * b) >>> ((nI 16).toInt64 &&& 63)) hx hb dS_mul_5 rfl ?_
  exact W.lret (v := (a * b) >>> ((nI 16).toInt64 &&& 63)) hx hb hr (fun t ht hW => ⟨_, rfl, rfl, ht⟩) (fun _ h => nomatch h) dS_mul_6

set_option maxHeartbeats 4000000 in
set_option maxRecDepth 100000 in
/-- a times b in 65536ths -/
theorem kM_mul (l : Launch) (a b : Int64) : Met l yM_mul (wc yM_mul cM_mul 4 (some .long)) ({ frames := 0, cells := 0, slots := 0, locals := 0 } : Room) (va_Pc [.long a, .long b] (fun _ => True)) (vp_Sl (fun r => r = jmul a b)) 0 0 (fun _ => False) := by
  refine Met.ofW (cc := cM_mul) (maxL := 4) (ret := (some .long)) (by decide +kernel) rfl ?_
  intro p e s m args below meth c s₁ B hml hv
  obtain ⟨rfl, -⟩ := hv
  have hx := B.exec
  have hb := B.bytes
  have hr := B.returns
  have hts : ∀ w9 ∈ ws_all, w9.before ([.long a, .long b] : List Value).toArray s = true := fun w9 h => atoms_spec (ws := (wc yM_mul cM_mul 4 (some .long))) B.pre w9 (List.mem_cons_of_mem _ h)
  have hown : s.vm.findClass RM = some m.cls := findClass_of_methodNamed B.named
  have hlocks := B.notSynchronized
  have hl := lv_entry ([.long a, .long b]) (n := 4) (Nat.le_of_ble_eq_true rfl)
  rw [lg_entry_eq]
  generalize (lg_sl ([.long a, .long b]) ++ List.replicate (4 - (lg_sl ([.long a, .long b])).length) Slot.unset).toArray = ls at hl ⊢
  have hl : lv_has ls 4 [(0, .long a), (2, .long b)] := hl
  refine lv_lload_n hx hb dM_mul_0 rfl (lv_at hl 0 rfl) ?_
  refine lv_lload_n hx hb dM_mul_1 rfl (lv_at hl 1 rfl) ?_
  refine lv_lmul hx hb dM_mul_2 ?_
  refine lv_bipush (v := nI 16) hx hb dM_mul_3 (by decide) ?_
  refine lv_lshr (v := (a * b) >>> ((nI 16).toInt64 &&& 63)) hx hb dM_mul_5 rfl ?_
  exact W.lret (v := (a * b) >>> ((nI 16).toInt64 &&& 63)) hx hb hr (fun t ht hW => ⟨_, rfl, rfl, ht⟩) (fun _ h => nomatch h) dM_mul_6

set_option maxHeartbeats 4000000 in
set_option maxRecDepth 100000 in
/-- the nearest within the bound -/
theorem kS_bound (l : Launch) (v : Int64) : Met l yS_bound (wc yS_bound cS_bound 2 (some .int)) ({ frames := 1, cells := 0, slots := 0, locals := 17 } : Room) (va_Pc [.long v] (fun _ => True)) (vp_Si (fun r => r = (jcl v).toInt32)) 0 0 (fun _ => False) := by
  refine Met.ofW (cc := cS_bound) (maxL := 2) (ret := (some .int)) (by decide +kernel) rfl ?_
  intro p e s m args below meth c s₁ B hml hv
  obtain ⟨rfl, -⟩ := hv
  have hx := B.exec
  have hb := B.bytes
  have hr := B.returns
  have hts : ∀ w9 ∈ ws_all, w9.before ([.long v] : List Value).toArray s = true := fun w9 h => atoms_spec (ws := (wc yS_bound cS_bound 2 (some .int))) B.pre w9 (List.mem_cons_of_mem _ h)
  have hown : s.vm.findClass RS = some m.cls := findClass_of_methodNamed B.named
  have hlocks := B.notSynchronized
  have hl := lv_entry ([.long v]) (n := 2) (Nat.le_of_ble_eq_true rfl)
  rw [lg_entry_eq]
  generalize (lg_sl ([.long v]) ++ List.replicate (2 - (lg_sl ([.long v])).length) Slot.unset).toArray = ls at hl ⊢
  have hl : lv_has ls 2 [(0, .long v)] := hl
  refine lv_ldc2 (own := RS) (index := 150) (v := (-16777216)) hx hb hown (hts _ w_80) dS_bound_0 ?_
  refine lv_ldc2 (own := RS) (index := 152) (v := 16777216) hx hb hown (hts _ w_81) dS_bound_3 ?_
  refine lv_lload_n hx hb dS_bound_6 rfl (lv_at hl 0 rfl) ?_
  refine va_mmin_long (own := RS) (index := 154) hx hb (hml.trans hl.1.symm) hown (hts _ w_82) (hts _ w_83) (hts _ w_3) (hts _ w_84) (by decide) (by decide) (by decide) (by decide) dS_bound_7 ?_
  refine va_mmax_long (own := RS) (index := 156) hx hb (hml.trans hl.1.symm) hown (hts _ w_85) (hts _ w_86) (hts _ w_3) (hts _ w_87) (by decide) (by decide) (by decide) (by decide) dS_bound_10 ?_
  refine lv_l2i (v := (jcl v).toInt32) hx hb dS_bound_13 rfl ?_
  exact W.iret (v := (jcl v).toInt32) hx hb hr (fun t ht hW => ⟨_, rfl, rfl, ht⟩) (fun _ h => nomatch h) dS_bound_14

set_option maxHeartbeats 4000000 in
set_option maxRecDepth 100000 in
/-- -w <= v <= w -/
theorem kS_isWithin (l : Launch) (v w : Int32) : Met l yS_isWithin (wc yS_isWithin cS_isWithin 2 (some .boolean)) ({ frames := 0, cells := 0, slots := 0, locals := 0 } : Room) (va_Pc [.int v, .int w] (fun _ => True)) (vp_Si (jb (jcan w v))) 0 0 (fun _ => False) := by
  refine Met.ofW (cc := cS_isWithin) (maxL := 2) (ret := (some .boolean)) (by decide +kernel) rfl ?_
  intro p e s m args below meth c s₁ B hml hv
  obtain ⟨rfl, -⟩ := hv
  have hx := B.exec
  have hb := B.bytes
  have hr := B.returns
  have hts : ∀ w9 ∈ ws_all, w9.before ([.int v, .int w] : List Value).toArray s = true := fun w9 h => atoms_spec (ws := (wc yS_isWithin cS_isWithin 2 (some .boolean))) B.pre w9 (List.mem_cons_of_mem _ h)
  have hown : s.vm.findClass RS = some m.cls := findClass_of_methodNamed B.named
  have hlocks := B.notSynchronized
  have hl := lv_entry ([.int v, .int w]) (n := 2) (Nat.le_of_ble_eq_true rfl)
  rw [lg_entry_eq]
  generalize (lg_sl ([.int v, .int w]) ++ List.replicate (2 - (lg_sl ([.int v, .int w])).length) Slot.unset).toArray = ls at hl ⊢
  have hl : lv_has ls 2 [(0, .int v), (1, .int w)] := hl
  refine lv_iload_n hx hb dS_isWithin_0 rfl (lv_at hl 0 rfl) ?_
  refine lv_iload_n hx hb dS_isWithin_1 rfl (lv_at hl 1 rfl) ?_
  refine lv_ineg hx hb dS_isWithin_2 ?_
  refine lv_icmp_lt (tgt := 15) hx hb dS_isWithin_3 (by decide) (fun c_3 => ?_) (fun c_3 => ?_)
  · skip
    refine lv_iconst (v := nI 0) hx hb dS_isWithin_15 (by decide) ?_
    exact W.zret (v := nI 0) (ty := .boolean) hx hb hr (by decide) (fun t ht hW => ⟨_, rfl, jb.zero (fun h9 => by simp only [jcan, Int32.lt_iff_toInt_lt, Int32.le_iff_toInt_le, nI, Int32.reduceOfNat, Int32.reduceToInt] at h9 c_3; omega), ht⟩) (fun _ h => nomatch h) dS_isWithin_16
  · skip
    refine lv_iload_n hx hb dS_isWithin_6 rfl (lv_at hl 0 rfl) ?_
    refine lv_iload_n hx hb dS_isWithin_7 rfl (lv_at hl 1 rfl) ?_
    refine lv_icmp_gt (tgt := 15) hx hb dS_isWithin_8 (by decide) (fun c_8 => ?_) (fun c_8 => ?_)
    · skip
      refine lv_iconst (v := nI 0) hx hb dS_isWithin_15 (by decide) ?_
      exact W.zret (v := nI 0) (ty := .boolean) hx hb hr (by decide) (fun t ht hW => ⟨_, rfl, jb.zero (fun h9 => by simp only [jcan, Int32.lt_iff_toInt_lt, Int32.le_iff_toInt_le, nI, Int32.reduceOfNat, Int32.reduceToInt] at h9 c_3 c_8; omega), ht⟩) (fun _ h => nomatch h) dS_isWithin_16
    · skip
      refine lv_iconst (v := nI 1) hx hb dS_isWithin_11 (by decide) ?_
      refine lv_goto (tgt := 16) hx hb dS_isWithin_12 (by decide) ?_
      exact W.zret (v := nI 1) (ty := .boolean) hx hb hr (by decide) (fun t ht hW => ⟨_, rfl, jb.one (by simp only [jcan, Int32.lt_iff_toInt_lt, Int32.le_iff_toInt_le, nI, Int32.reduceOfNat, Int32.reduceToInt] at c_3 c_8 ⊢; omega), ht⟩) (fun _ h => nomatch h) dS_isWithin_16

set_option maxHeartbeats 4000000 in
set_option maxRecDepth 100000 in
theorem kS_isParentBefore (l : Launch) (n q : Int32) : Met l yS_isParentBefore (wc yS_isParentBefore cS_isParentBefore 2 (some .boolean)) ({ frames := 0, cells := 0, slots := 0, locals := 0 } : Room) (va_Pc [.int n, .int q] (fun _ => True)) (vp_Si (jb ((-1) ≤ q ∧ q < n))) 0 0 (fun _ => False) := by
  refine Met.ofW (cc := cS_isParentBefore) (maxL := 2) (ret := (some .boolean)) (by decide +kernel) rfl ?_
  intro p e s m args below meth c s₁ B hml hv
  obtain ⟨rfl, -⟩ := hv
  have hx := B.exec
  have hb := B.bytes
  have hr := B.returns
  have hts : ∀ w9 ∈ ws_all, w9.before ([.int n, .int q] : List Value).toArray s = true := fun w9 h => atoms_spec (ws := (wc yS_isParentBefore cS_isParentBefore 2 (some .boolean))) B.pre w9 (List.mem_cons_of_mem _ h)
  have hown : s.vm.findClass RS = some m.cls := findClass_of_methodNamed B.named
  have hlocks := B.notSynchronized
  have hl := lv_entry ([.int n, .int q]) (n := 2) (Nat.le_of_ble_eq_true rfl)
  rw [lg_entry_eq]
  generalize (lg_sl ([.int n, .int q]) ++ List.replicate (2 - (lg_sl ([.int n, .int q])).length) Slot.unset).toArray = ls at hl ⊢
  have hl : lv_has ls 2 [(0, .int n), (1, .int q)] := hl
  refine lv_iload_n hx hb dS_isParentBefore_0 rfl (lv_at hl 1 rfl) ?_
  refine lv_iconst (v := (-1)) hx hb dS_isParentBefore_1 (by decide) ?_
  refine lv_icmp_lt (tgt := 14) hx hb dS_isParentBefore_2 (by decide) (fun c_2 => ?_) (fun c_2 => ?_)
  · skip
    refine lv_iconst (v := nI 0) hx hb dS_isParentBefore_14 (by decide) ?_
    exact W.zret (v := nI 0) (ty := .boolean) hx hb hr (by decide) (fun t ht hW => ⟨_, rfl, jb.zero (fun h9 => by simp only [Int32.lt_iff_toInt_lt, Int32.le_iff_toInt_le, nI, Int32.reduceOfNat, Int32.reduceToInt] at h9 c_2; omega), ht⟩) (fun _ h => nomatch h) dS_isParentBefore_15
  · skip
    refine lv_iload_n hx hb dS_isParentBefore_5 rfl (lv_at hl 1 rfl) ?_
    refine lv_iload_n hx hb dS_isParentBefore_6 rfl (lv_at hl 0 rfl) ?_
    refine lv_icmp_ge (tgt := 14) hx hb dS_isParentBefore_7 (by decide) (fun c_7 => ?_) (fun c_7 => ?_)
    · skip
      refine lv_iconst (v := nI 0) hx hb dS_isParentBefore_14 (by decide) ?_
      exact W.zret (v := nI 0) (ty := .boolean) hx hb hr (by decide) (fun t ht hW => ⟨_, rfl, jb.zero (fun h9 => by simp only [Int32.lt_iff_toInt_lt, Int32.le_iff_toInt_le, nI, Int32.reduceOfNat, Int32.reduceToInt] at h9 c_2 c_7; omega), ht⟩) (fun _ h => nomatch h) dS_isParentBefore_15
    · skip
      refine lv_iconst (v := nI 1) hx hb dS_isParentBefore_10 (by decide) ?_
      refine lv_goto (tgt := 15) hx hb dS_isParentBefore_11 (by decide) ?_
      exact W.zret (v := nI 1) (ty := .boolean) hx hb hr (by decide) (fun t ht hW => ⟨_, rfl, jb.one (by simp only [Int32.lt_iff_toInt_lt, Int32.le_iff_toInt_le, nI, Int32.reduceOfNat, Int32.reduceToInt] at c_2 c_7 ⊢; omega), ht⟩) (fun _ h => nomatch h) dS_isParentBefore_15

set_option maxHeartbeats 4000000 in
set_option maxRecDepth 100000 in
theorem kS_isCell (l : Launch) (i j : Int32) : Met l yS_isCell (wc yS_isCell cS_isCell 2 (some .boolean)) ({ frames := 0, cells := 0, slots := 0, locals := 0 } : Room) (va_Pc [.int i, .int j] (fun _ => True)) (vp_Si (jb ((0 ≤ i ∧ i < 3) ∧ (0 ≤ j ∧ j < 4)))) 0 0 (fun _ => False) := by
  refine Met.ofW (cc := cS_isCell) (maxL := 2) (ret := (some .boolean)) (by decide +kernel) rfl ?_
  intro p e s m args below meth c s₁ B hml hv
  obtain ⟨rfl, -⟩ := hv
  have hx := B.exec
  have hb := B.bytes
  have hr := B.returns
  have hts : ∀ w9 ∈ ws_all, w9.before ([.int i, .int j] : List Value).toArray s = true := fun w9 h => atoms_spec (ws := (wc yS_isCell cS_isCell 2 (some .boolean))) B.pre w9 (List.mem_cons_of_mem _ h)
  have hown : s.vm.findClass RS = some m.cls := findClass_of_methodNamed B.named
  have hlocks := B.notSynchronized
  have hl := lv_entry ([.int i, .int j]) (n := 2) (Nat.le_of_ble_eq_true rfl)
  rw [lg_entry_eq]
  generalize (lg_sl ([.int i, .int j]) ++ List.replicate (2 - (lg_sl ([.int i, .int j])).length) Slot.unset).toArray = ls at hl ⊢
  have hl : lv_has ls 2 [(0, .int i), (1, .int j)] := hl
  refine lv_iload_n hx hb dS_isCell_0 rfl (lv_at hl 0 rfl) ?_
  refine lv_if_lt (tgt := 22) hx hb dS_isCell_1 (by decide) (fun c_1 => ?_) (fun c_1 => ?_)
  · skip
    refine lv_iconst (v := nI 0) hx hb dS_isCell_22 (by decide) ?_
    exact W.zret (v := nI 0) (ty := .boolean) hx hb hr (by decide) (fun t ht hW => ⟨_, rfl, jb.zero (fun h9 => by simp only [Int32.lt_iff_toInt_lt, Int32.le_iff_toInt_le, nI, Int32.reduceOfNat, Int32.reduceToInt] at h9 c_1; omega), ht⟩) (fun _ h => nomatch h) dS_isCell_23
  · skip
    refine lv_iload_n hx hb dS_isCell_4 rfl (lv_at hl 0 rfl) ?_
    refine lv_iconst (v := nI 3) hx hb dS_isCell_5 (by decide) ?_
    refine lv_icmp_ge (tgt := 22) hx hb dS_isCell_6 (by decide) (fun c_6 => ?_) (fun c_6 => ?_)
    · skip
      refine lv_iconst (v := nI 0) hx hb dS_isCell_22 (by decide) ?_
      exact W.zret (v := nI 0) (ty := .boolean) hx hb hr (by decide) (fun t ht hW => ⟨_, rfl, jb.zero (fun h9 => by simp only [Int32.lt_iff_toInt_lt, Int32.le_iff_toInt_le, nI, Int32.reduceOfNat, Int32.reduceToInt] at h9 c_1 c_6; omega), ht⟩) (fun _ h => nomatch h) dS_isCell_23
    · skip
      refine lv_iload_n hx hb dS_isCell_9 rfl (lv_at hl 1 rfl) ?_
      refine lv_if_lt (tgt := 22) hx hb dS_isCell_10 (by decide) (fun c_10 => ?_) (fun c_10 => ?_)
      · skip
        refine lv_iconst (v := nI 0) hx hb dS_isCell_22 (by decide) ?_
        exact W.zret (v := nI 0) (ty := .boolean) hx hb hr (by decide) (fun t ht hW => ⟨_, rfl, jb.zero (fun h9 => by simp only [Int32.lt_iff_toInt_lt, Int32.le_iff_toInt_le, nI, Int32.reduceOfNat, Int32.reduceToInt] at h9 c_1 c_6 c_10; omega), ht⟩) (fun _ h => nomatch h) dS_isCell_23
      · skip
        refine lv_iload_n hx hb dS_isCell_13 rfl (lv_at hl 1 rfl) ?_
        refine lv_iconst (v := nI 4) hx hb dS_isCell_14 (by decide) ?_
        refine lv_icmp_ge (tgt := 22) hx hb dS_isCell_15 (by decide) (fun c_15 => ?_) (fun c_15 => ?_)
        · skip
          refine lv_iconst (v := nI 0) hx hb dS_isCell_22 (by decide) ?_
          exact W.zret (v := nI 0) (ty := .boolean) hx hb hr (by decide) (fun t ht hW => ⟨_, rfl, jb.zero (fun h9 => by simp only [Int32.lt_iff_toInt_lt, Int32.le_iff_toInt_le, nI, Int32.reduceOfNat, Int32.reduceToInt] at h9 c_1 c_6 c_10 c_15; omega), ht⟩) (fun _ h => nomatch h) dS_isCell_23
        · skip
          refine lv_iconst (v := nI 1) hx hb dS_isCell_18 (by decide) ?_
          refine lv_goto (tgt := 23) hx hb dS_isCell_19 (by decide) ?_
          exact W.zret (v := nI 1) (ty := .boolean) hx hb hr (by decide) (fun t ht hW => ⟨_, rfl, jb.one (by simp only [Int32.lt_iff_toInt_lt, Int32.le_iff_toInt_le, nI, Int32.reduceOfNat, Int32.reduceToInt] at c_1 c_6 c_10 c_15 ⊢; omega), ht⟩) (fun _ h => nomatch h) dS_isCell_23

set_option maxHeartbeats 4000000 in
set_option maxRecDepth 100000 in
/-- a node can have these numbers -/
theorem kS_canBe (l : Launch) (q x y z : Int32) : Met l yS_canBe (wc yS_canBe cS_canBe 5 (some .boolean)) ({ frames := 1, cells := 0, slots := 0, locals := 21 } : Room) (va_Pc [.int q, .int x, .int y, .int z] (fun _ => True)) (vp_Si (jb (jcan (jw q) x ∧ jcan (jw q) y ∧ jcan (jw q) z))) 0 0 (fun _ => False) := by
  refine Met.ofW (cc := cS_canBe) (maxL := 5) (ret := (some .boolean)) (by decide +kernel) rfl ?_
  intro p e s m args below meth c s₁ B hml hv
  obtain ⟨rfl, -⟩ := hv
  have hx := B.exec
  have hb := B.bytes
  have hr := B.returns
  have hts : ∀ w9 ∈ ws_all, w9.before ([.int q, .int x, .int y, .int z] : List Value).toArray s = true := fun w9 h => atoms_spec (ws := (wc yS_canBe cS_canBe 5 (some .boolean))) B.pre w9 (List.mem_cons_of_mem _ h)
  have hown : s.vm.findClass RS = some m.cls := findClass_of_methodNamed B.named
  have hlocks := B.notSynchronized
  have hl := lv_entry ([.int q, .int x, .int y, .int z]) (n := 5) (Nat.le_of_ble_eq_true rfl)
  rw [lg_entry_eq]
  generalize (lg_sl ([.int q, .int x, .int y, .int z]) ++ List.replicate (5 - (lg_sl ([.int q, .int x, .int y, .int z])).length) Slot.unset).toArray = ls at hl ⊢
  have hl : lv_has ls 5 [(0, .int q), (1, .int x), (2, .int y), (3, .int z)] := hl
  refine lv_iload_n hx hb dS_canBe_0 rfl (lv_at hl 0 rfl) ?_
  refine lv_if_ne (tgt := 9) hx hb dS_canBe_1 (by decide) (fun c_1 => ?_) (fun c_1 => ?_)
  · skip
    refine lv_iload_n hx hb dS_canBe_9 rfl (lv_at hl 0 rfl) ?_
    refine lv_iconst (v := nI 1) hx hb dS_canBe_10 (by decide) ?_
    refine lv_icmp_ne (tgt := 19) hx hb dS_canBe_11 (by decide) (fun c_11 => ?_) (fun c_11 => ?_)
    · skip
      refine lv_ldc (own := RS) (index := 114) (v := 1048576) hx hb hown (hts _ w_162) dS_canBe_19 ?_
      refine ln_asi (jw q) (by unfold jw; rw [if_neg c_1]) ?_
      refine lv_istore (lv' := [(4, .int (jw q)), (0, .int q), (1, .int x), (2, .int y), (3, .int z)]) hx hb dS_canBe_21 hl (by decide) rfl (fun ls hl => ?_)
      refine lv_iload_n hx hb dS_canBe_23 rfl (lv_at hl 2 rfl) ?_
      refine lv_iload hx hb dS_canBe_24 (lv_at hl 0 rfl) ?_
      refine vp_callSi (va_Run.run (bc_runS (own := RS) (As := [.int x, .int (jw q)]) (rest := []) hx hb (hml.trans hl.1.symm) hown hts (kS_isWithin l x (jw q)) w_165 w_163 w_164 w_1 hd_S_isWithin rfl ⟨rfl, rfl⟩ ⟨Nat.le_of_ble_eq_true rfl, Nat.le_of_ble_eq_true rfl⟩ (fun _ _ _ _ _ => trivial) (fun _ _ _ => trivial) rfl (Nat.le_of_ble_eq_true rfl) dS_canBe_26 ⟨Nat.le_of_ble_eq_true rfl, Nat.le_of_ble_eq_true rfl⟩)) (fun r_26 hr_26 => ?_)
      refine lv_if_eq (tgt := 54) hx hb dS_canBe_29 (by decide) (fun c_29 => ?_) (fun c_29 => ?_)
      · skip
        refine lv_iconst (v := nI 0) hx hb dS_canBe_54 (by decide) ?_
        exact W.zret (v := nI 0) (ty := .boolean) hx hb hr (by decide) (fun t ht hW => ⟨_, rfl, jb.zero (fun h9 => hr_26.f c_29 h9.1), ht⟩) (fun _ h => nomatch h) dS_canBe_55
      · skip
        refine lv_iload_n hx hb dS_canBe_32 rfl (lv_at hl 3 rfl) ?_
        refine lv_iload hx hb dS_canBe_33 (lv_at hl 0 rfl) ?_
        refine vp_callSi (va_Run.run (bc_runS (own := RS) (As := [.int y, .int (jw q)]) (rest := []) hx hb (hml.trans hl.1.symm) hown hts (kS_isWithin l y (jw q)) w_165 w_163 w_164 w_1 hd_S_isWithin rfl ⟨rfl, rfl⟩ ⟨Nat.le_of_ble_eq_true rfl, Nat.le_of_ble_eq_true rfl⟩ (fun _ _ _ _ _ => trivial) (fun _ _ _ => trivial) rfl (Nat.le_of_ble_eq_true rfl) dS_canBe_35 ⟨Nat.le_of_ble_eq_true rfl, Nat.le_of_ble_eq_true rfl⟩)) (fun r_35 hr_35 => ?_)
        refine lv_if_eq (tgt := 54) hx hb dS_canBe_38 (by decide) (fun c_38 => ?_) (fun c_38 => ?_)
        · skip
          refine lv_iconst (v := nI 0) hx hb dS_canBe_54 (by decide) ?_
          exact W.zret (v := nI 0) (ty := .boolean) hx hb hr (by decide) (fun t ht hW => ⟨_, rfl, jb.zero (fun h9 => hr_35.f c_38 h9.2.1), ht⟩) (fun _ h => nomatch h) dS_canBe_55
        · skip
          refine lv_iload_n hx hb dS_canBe_41 rfl (lv_at hl 4 rfl) ?_
          refine lv_iload hx hb dS_canBe_42 (lv_at hl 0 rfl) ?_
          refine vp_callSi (va_Run.run (bc_runS (own := RS) (As := [.int z, .int (jw q)]) (rest := []) hx hb (hml.trans hl.1.symm) hown hts (kS_isWithin l z (jw q)) w_165 w_163 w_164 w_1 hd_S_isWithin rfl ⟨rfl, rfl⟩ ⟨Nat.le_of_ble_eq_true rfl, Nat.le_of_ble_eq_true rfl⟩ (fun _ _ _ _ _ => trivial) (fun _ _ _ => trivial) rfl (Nat.le_of_ble_eq_true rfl) dS_canBe_44 ⟨Nat.le_of_ble_eq_true rfl, Nat.le_of_ble_eq_true rfl⟩)) (fun r_44 hr_44 => ?_)
          refine lv_if_eq (tgt := 54) hx hb dS_canBe_47 (by decide) (fun c_47 => ?_) (fun c_47 => ?_)
          · skip
            refine lv_iconst (v := nI 0) hx hb dS_canBe_54 (by decide) ?_
            exact W.zret (v := nI 0) (ty := .boolean) hx hb hr (by decide) (fun t ht hW => ⟨_, rfl, jb.zero (fun h9 => hr_44.f c_47 h9.2.2), ht⟩) (fun _ h => nomatch h) dS_canBe_55
          · skip
            refine lv_iconst (v := nI 1) hx hb dS_canBe_50 (by decide) ?_
            refine lv_goto (tgt := 55) hx hb dS_canBe_51 (by decide) ?_
            exact W.zret (v := nI 1) (ty := .boolean) hx hb hr (by decide) (fun t ht hW => ⟨_, rfl, jb.one ⟨hr_26.t c_29, hr_35.t c_38, hr_44.t c_47⟩, ht⟩) (fun _ h => nomatch h) dS_canBe_55
    · skip
      refine lv_ldc (own := RS) (index := 114) (v := 1048576) hx hb hown (hts _ w_162) dS_canBe_14 ?_
      refine lv_goto (tgt := 21) hx hb dS_canBe_16 (by decide) ?_
      refine ln_asi (jw q) (by unfold jw; rw [if_neg c_1]) ?_
      refine lv_istore (lv' := [(4, .int (jw q)), (0, .int q), (1, .int x), (2, .int y), (3, .int z)]) hx hb dS_canBe_21 hl (by decide) rfl (fun ls hl => ?_)
      refine lv_iload_n hx hb dS_canBe_23 rfl (lv_at hl 2 rfl) ?_
      refine lv_iload hx hb dS_canBe_24 (lv_at hl 0 rfl) ?_
      refine vp_callSi (va_Run.run (bc_runS (own := RS) (As := [.int x, .int (jw q)]) (rest := []) hx hb (hml.trans hl.1.symm) hown hts (kS_isWithin l x (jw q)) w_165 w_163 w_164 w_1 hd_S_isWithin rfl ⟨rfl, rfl⟩ ⟨Nat.le_of_ble_eq_true rfl, Nat.le_of_ble_eq_true rfl⟩ (fun _ _ _ _ _ => trivial) (fun _ _ _ => trivial) rfl (Nat.le_of_ble_eq_true rfl) dS_canBe_26 ⟨Nat.le_of_ble_eq_true rfl, Nat.le_of_ble_eq_true rfl⟩)) (fun r_26 hr_26 => ?_)
      refine lv_if_eq (tgt := 54) hx hb dS_canBe_29 (by decide) (fun c_29 => ?_) (fun c_29 => ?_)
      · skip
        refine lv_iconst (v := nI 0) hx hb dS_canBe_54 (by decide) ?_
        exact W.zret (v := nI 0) (ty := .boolean) hx hb hr (by decide) (fun t ht hW => ⟨_, rfl, jb.zero (fun h9 => hr_26.f c_29 h9.1), ht⟩) (fun _ h => nomatch h) dS_canBe_55
      · skip
        refine lv_iload_n hx hb dS_canBe_32 rfl (lv_at hl 3 rfl) ?_
        refine lv_iload hx hb dS_canBe_33 (lv_at hl 0 rfl) ?_
        refine vp_callSi (va_Run.run (bc_runS (own := RS) (As := [.int y, .int (jw q)]) (rest := []) hx hb (hml.trans hl.1.symm) hown hts (kS_isWithin l y (jw q)) w_165 w_163 w_164 w_1 hd_S_isWithin rfl ⟨rfl, rfl⟩ ⟨Nat.le_of_ble_eq_true rfl, Nat.le_of_ble_eq_true rfl⟩ (fun _ _ _ _ _ => trivial) (fun _ _ _ => trivial) rfl (Nat.le_of_ble_eq_true rfl) dS_canBe_35 ⟨Nat.le_of_ble_eq_true rfl, Nat.le_of_ble_eq_true rfl⟩)) (fun r_35 hr_35 => ?_)
        refine lv_if_eq (tgt := 54) hx hb dS_canBe_38 (by decide) (fun c_38 => ?_) (fun c_38 => ?_)
        · skip
          refine lv_iconst (v := nI 0) hx hb dS_canBe_54 (by decide) ?_
          exact W.zret (v := nI 0) (ty := .boolean) hx hb hr (by decide) (fun t ht hW => ⟨_, rfl, jb.zero (fun h9 => hr_35.f c_38 h9.2.1), ht⟩) (fun _ h => nomatch h) dS_canBe_55
        · skip
          refine lv_iload_n hx hb dS_canBe_41 rfl (lv_at hl 4 rfl) ?_
          refine lv_iload hx hb dS_canBe_42 (lv_at hl 0 rfl) ?_
          refine vp_callSi (va_Run.run (bc_runS (own := RS) (As := [.int z, .int (jw q)]) (rest := []) hx hb (hml.trans hl.1.symm) hown hts (kS_isWithin l z (jw q)) w_165 w_163 w_164 w_1 hd_S_isWithin rfl ⟨rfl, rfl⟩ ⟨Nat.le_of_ble_eq_true rfl, Nat.le_of_ble_eq_true rfl⟩ (fun _ _ _ _ _ => trivial) (fun _ _ _ => trivial) rfl (Nat.le_of_ble_eq_true rfl) dS_canBe_44 ⟨Nat.le_of_ble_eq_true rfl, Nat.le_of_ble_eq_true rfl⟩)) (fun r_44 hr_44 => ?_)
          refine lv_if_eq (tgt := 54) hx hb dS_canBe_47 (by decide) (fun c_47 => ?_) (fun c_47 => ?_)
          · skip
            refine lv_iconst (v := nI 0) hx hb dS_canBe_54 (by decide) ?_
            exact W.zret (v := nI 0) (ty := .boolean) hx hb hr (by decide) (fun t ht hW => ⟨_, rfl, jb.zero (fun h9 => hr_44.f c_47 h9.2.2), ht⟩) (fun _ h => nomatch h) dS_canBe_55
          · skip
            refine lv_iconst (v := nI 1) hx hb dS_canBe_50 (by decide) ?_
            refine lv_goto (tgt := 55) hx hb dS_canBe_51 (by decide) ?_
            exact W.zret (v := nI 1) (ty := .boolean) hx hb hr (by decide) (fun t ht hW => ⟨_, rfl, jb.one ⟨hr_26.t c_29, hr_35.t c_38, hr_44.t c_47⟩, ht⟩) (fun _ h => nomatch h) dS_canBe_55
  · skip
    refine lv_ldc (own := RS) (index := 113) (v := 4194304) hx hb hown (hts _ w_161) dS_canBe_4 ?_
    refine lv_goto (tgt := 21) hx hb dS_canBe_6 (by decide) ?_
    refine ln_asi (jw q) (by unfold jw; rw [if_pos c_1]) ?_
    refine lv_istore (lv' := [(4, .int (jw q)), (0, .int q), (1, .int x), (2, .int y), (3, .int z)]) hx hb dS_canBe_21 hl (by decide) rfl (fun ls hl => ?_)
    refine lv_iload_n hx hb dS_canBe_23 rfl (lv_at hl 2 rfl) ?_
    refine lv_iload hx hb dS_canBe_24 (lv_at hl 0 rfl) ?_
    refine vp_callSi (va_Run.run (bc_runS (own := RS) (As := [.int x, .int (jw q)]) (rest := []) hx hb (hml.trans hl.1.symm) hown hts (kS_isWithin l x (jw q)) w_165 w_163 w_164 w_1 hd_S_isWithin rfl ⟨rfl, rfl⟩ ⟨Nat.le_of_ble_eq_true rfl, Nat.le_of_ble_eq_true rfl⟩ (fun _ _ _ _ _ => trivial) (fun _ _ _ => trivial) rfl (Nat.le_of_ble_eq_true rfl) dS_canBe_26 ⟨Nat.le_of_ble_eq_true rfl, Nat.le_of_ble_eq_true rfl⟩)) (fun r_26 hr_26 => ?_)
    refine lv_if_eq (tgt := 54) hx hb dS_canBe_29 (by decide) (fun c_29 => ?_) (fun c_29 => ?_)
    · skip
      refine lv_iconst (v := nI 0) hx hb dS_canBe_54 (by decide) ?_
      exact W.zret (v := nI 0) (ty := .boolean) hx hb hr (by decide) (fun t ht hW => ⟨_, rfl, jb.zero (fun h9 => hr_26.f c_29 h9.1), ht⟩) (fun _ h => nomatch h) dS_canBe_55
    · skip
      refine lv_iload_n hx hb dS_canBe_32 rfl (lv_at hl 3 rfl) ?_
      refine lv_iload hx hb dS_canBe_33 (lv_at hl 0 rfl) ?_
      refine vp_callSi (va_Run.run (bc_runS (own := RS) (As := [.int y, .int (jw q)]) (rest := []) hx hb (hml.trans hl.1.symm) hown hts (kS_isWithin l y (jw q)) w_165 w_163 w_164 w_1 hd_S_isWithin rfl ⟨rfl, rfl⟩ ⟨Nat.le_of_ble_eq_true rfl, Nat.le_of_ble_eq_true rfl⟩ (fun _ _ _ _ _ => trivial) (fun _ _ _ => trivial) rfl (Nat.le_of_ble_eq_true rfl) dS_canBe_35 ⟨Nat.le_of_ble_eq_true rfl, Nat.le_of_ble_eq_true rfl⟩)) (fun r_35 hr_35 => ?_)
      refine lv_if_eq (tgt := 54) hx hb dS_canBe_38 (by decide) (fun c_38 => ?_) (fun c_38 => ?_)
      · skip
        refine lv_iconst (v := nI 0) hx hb dS_canBe_54 (by decide) ?_
        exact W.zret (v := nI 0) (ty := .boolean) hx hb hr (by decide) (fun t ht hW => ⟨_, rfl, jb.zero (fun h9 => hr_35.f c_38 h9.2.1), ht⟩) (fun _ h => nomatch h) dS_canBe_55
      · skip
        refine lv_iload_n hx hb dS_canBe_41 rfl (lv_at hl 4 rfl) ?_
        refine lv_iload hx hb dS_canBe_42 (lv_at hl 0 rfl) ?_
        refine vp_callSi (va_Run.run (bc_runS (own := RS) (As := [.int z, .int (jw q)]) (rest := []) hx hb (hml.trans hl.1.symm) hown hts (kS_isWithin l z (jw q)) w_165 w_163 w_164 w_1 hd_S_isWithin rfl ⟨rfl, rfl⟩ ⟨Nat.le_of_ble_eq_true rfl, Nat.le_of_ble_eq_true rfl⟩ (fun _ _ _ _ _ => trivial) (fun _ _ _ => trivial) rfl (Nat.le_of_ble_eq_true rfl) dS_canBe_44 ⟨Nat.le_of_ble_eq_true rfl, Nat.le_of_ble_eq_true rfl⟩)) (fun r_44 hr_44 => ?_)
        refine lv_if_eq (tgt := 54) hx hb dS_canBe_47 (by decide) (fun c_47 => ?_) (fun c_47 => ?_)
        · skip
          refine lv_iconst (v := nI 0) hx hb dS_canBe_54 (by decide) ?_
          exact W.zret (v := nI 0) (ty := .boolean) hx hb hr (by decide) (fun t ht hW => ⟨_, rfl, jb.zero (fun h9 => hr_44.f c_47 h9.2.2), ht⟩) (fun _ h => nomatch h) dS_canBe_55
        · skip
          refine lv_iconst (v := nI 1) hx hb dS_canBe_50 (by decide) ?_
          refine lv_goto (tgt := 55) hx hb dS_canBe_51 (by decide) ?_
          exact W.zret (v := nI 1) (ty := .boolean) hx hb hr (by decide) (fun t ht hW => ⟨_, rfl, jb.one ⟨hr_26.t c_29, hr_35.t c_38, hr_44.t c_47⟩, ht⟩) (fun _ h => nomatch h) dS_canBe_55

set_option maxHeartbeats 4000000 in
set_option maxRecDepth 100000 in
theorem kS_isNode (l : Launch) (D : va_G) (cs : Nat → ClassId) (ad : Nat → Nat) (hI : bw_I ad 162) (M : Nat → Nat → Int32) (sz : Nat) (x : Int32) : Met l yS_isNode (wc yS_isNode cS_isNode 2 (some .boolean)) ({ frames := 0, cells := 0, slots := 0, locals := 0 } : Room) (va_Pc [.ref (ad 0), .int x] (sP D cs ad M sz)) (vp_Si (jb (0 ≤ x ∧ x < M 0 0))) 0 0 (fun _ => False) := by
  refine Met.ofW (cc := cS_isNode) (maxL := 2) (ret := (some .boolean)) (by decide +kernel) rfl ?_
  intro p e s m args below meth c s₁ B hml hv
  obtain ⟨rfl, hsz, hP, hE⟩ := hv
  subst hsz
  have hx := B.exec
  have hb := B.bytes
  have hr := B.returns
  have hts : ∀ w9 ∈ ws_all, w9.before ([.ref (ad 0), .int x] : List Value).toArray s = true := fun w9 h => atoms_spec (ws := (wc yS_isNode cS_isNode 2 (some .boolean))) B.pre w9 (List.mem_cons_of_mem _ h)
  have hown : s.vm.findClass RS = some m.cls := findClass_of_methodNamed B.named
  have hlocks := B.notSynchronized
  have hl := lv_entry ([.ref (ad 0), .int x]) (n := 2) (Nat.le_of_ble_eq_true rfl)
  rw [lg_entry_eq]
  generalize (lg_sl ([.ref (ad 0), .int x]) ++ List.replicate (2 - (lg_sl ([.ref (ad 0), .int x])).length) Slot.unset).toArray = ls at hl ⊢
  have hl : lv_has ls 2 [(0, .ref (ad 0)), (1, .int x)] := hl
  refine lv_iload_n hx hb dS_isNode_0 rfl (lv_at hl 1 rfl) ?_
  refine lv_if_lt (tgt := 16) hx hb dS_isNode_1 (by decide) (fun c_1 => ?_) (fun c_1 => ?_)
  · skip
    refine lv_iconst (v := nI 0) hx hb dS_isNode_16 (by decide) ?_
    exact W.zret (v := nI 0) (ty := .boolean) hx hb hr (by decide) (fun t ht hW => ⟨_, rfl, jb.zero (fun h9 => by simp only [Int32.lt_iff_toInt_lt, Int32.le_iff_toInt_le, nI, Int32.reduceOfNat, Int32.reduceToInt] at h9 c_1; omega), ht⟩) (fun _ h => nomatch h) dS_isNode_17
  · skip
    refine lv_iload_n hx hb dS_isNode_4 rfl (lv_at hl 1 rfl) ?_
    refine lv_aload_n hx hb dS_isNode_5 rfl (lv_at hl 0 rfl) ?_
    refine bw_get (own := RS) (ci := 1) (C := RS) (T := TS) (N := 14) (v := .int (M 0 0)) hx hb hts inS hown hE hP 0 (by decide) rfl rfl 0 (by decide) w_88 rfl rfl dS_isNode_6 ?_
    refine lv_icmp_ge (tgt := 16) hx hb dS_isNode_9 (by decide) (fun c_9 => ?_) (fun c_9 => ?_)
    · skip
      refine lv_iconst (v := nI 0) hx hb dS_isNode_16 (by decide) ?_
      exact W.zret (v := nI 0) (ty := .boolean) hx hb hr (by decide) (fun t ht hW => ⟨_, rfl, jb.zero (fun h9 => by simp only [Int32.lt_iff_toInt_lt, Int32.le_iff_toInt_le, nI, Int32.reduceOfNat, Int32.reduceToInt] at h9 c_1 c_9; omega), ht⟩) (fun _ h => nomatch h) dS_isNode_17
    · skip
      refine lv_iconst (v := nI 1) hx hb dS_isNode_12 (by decide) ?_
      refine lv_goto (tgt := 17) hx hb dS_isNode_13 (by decide) ?_
      exact W.zret (v := nI 1) (ty := .boolean) hx hb hr (by decide) (fun t ht hW => ⟨_, rfl, jb.one (by simp only [Int32.lt_iff_toInt_lt, Int32.le_iff_toInt_le, nI, Int32.reduceOfNat, Int32.reduceToInt] at c_1 c_9 ⊢; omega), ht⟩) (fun _ h => nomatch h) dS_isNode_17

set_option maxHeartbeats 4000000 in
set_option maxRecDepth 100000 in
theorem kM_isNode (l : Launch) (D : va_G) (cs : Nat → ClassId) (ad : Nat → Nat) (hI : bw_I ad 13) (M : Nat → mRow) (sz : Nat) (x : Int32) : Met l yM_isNode (wc yM_isNode cM_isNode 2 (some .boolean)) ({ frames := 0, cells := 0, slots := 0, locals := 0 } : Room) (va_Pc [.ref (ad 0), .int x] (mP D cs ad M sz)) (vp_Si (jb (0 ≤ x ∧ x < (M 0).1 1))) 0 0 (fun _ => False) := by
  refine Met.ofW (cc := cM_isNode) (maxL := 2) (ret := (some .boolean)) (by decide +kernel) rfl ?_
  intro p e s m args below meth c s₁ B hml hv
  obtain ⟨rfl, hsz, hP, hE⟩ := hv
  subst hsz
  have hx := B.exec
  have hb := B.bytes
  have hr := B.returns
  have hts : ∀ w9 ∈ ws_all, w9.before ([.ref (ad 0), .int x] : List Value).toArray s = true := fun w9 h => atoms_spec (ws := (wc yM_isNode cM_isNode 2 (some .boolean))) B.pre w9 (List.mem_cons_of_mem _ h)
  have hown : s.vm.findClass RM = some m.cls := findClass_of_methodNamed B.named
  have hlocks := B.notSynchronized
  have hl := lv_entry ([.ref (ad 0), .int x]) (n := 2) (Nat.le_of_ble_eq_true rfl)
  rw [lg_entry_eq]
  generalize (lg_sl ([.ref (ad 0), .int x]) ++ List.replicate (2 - (lg_sl ([.ref (ad 0), .int x])).length) Slot.unset).toArray = ls at hl ⊢
  have hl : lv_has ls 2 [(0, .ref (ad 0)), (1, .int x)] := hl
  refine lv_iload_n hx hb dM_isNode_0 rfl (lv_at hl 1 rfl) ?_
  refine lv_if_lt (tgt := 16) hx hb dM_isNode_1 (by decide) (fun c_1 => ?_) (fun c_1 => ?_)
  · skip
    refine lv_iconst (v := nI 0) hx hb dM_isNode_16 (by decide) ?_
    exact W.zret (v := nI 0) (ty := .boolean) hx hb hr (by decide) (fun t ht hW => ⟨_, rfl, jb.zero (fun h9 => by simp only [Int32.lt_iff_toInt_lt, Int32.le_iff_toInt_le, nI, Int32.reduceOfNat, Int32.reduceToInt] at h9 c_1; omega), ht⟩) (fun _ h => nomatch h) dM_isNode_17
  · skip
    refine lv_iload_n hx hb dM_isNode_4 rfl (lv_at hl 1 rfl) ?_
    refine lv_aload_n hx hb dM_isNode_5 rfl (lv_at hl 0 rfl) ?_
    refine bw_get (own := RM) (ci := 2) (C := RM) (T := TM) (N := 14) (v := .int ((M 0).1 1)) hx hb hts inM hown hE hP 0 (by decide) rfl rfl 1 (by decide) w_317 rfl rfl dM_isNode_6 ?_
    refine lv_icmp_ge (tgt := 16) hx hb dM_isNode_9 (by decide) (fun c_9 => ?_) (fun c_9 => ?_)
    · skip
      refine lv_iconst (v := nI 0) hx hb dM_isNode_16 (by decide) ?_
      exact W.zret (v := nI 0) (ty := .boolean) hx hb hr (by decide) (fun t ht hW => ⟨_, rfl, jb.zero (fun h9 => by simp only [Int32.lt_iff_toInt_lt, Int32.le_iff_toInt_le, nI, Int32.reduceOfNat, Int32.reduceToInt] at h9 c_1 c_9; omega), ht⟩) (fun _ h => nomatch h) dM_isNode_17
    · skip
      refine lv_iconst (v := nI 1) hx hb dM_isNode_12 (by decide) ?_
      refine lv_goto (tgt := 17) hx hb dM_isNode_13 (by decide) ?_
      exact W.zret (v := nI 1) (ty := .boolean) hx hb hr (by decide) (fun t ht hW => ⟨_, rfl, jb.one (by simp only [Int32.lt_iff_toInt_lt, Int32.le_iff_toInt_le, nI, Int32.reduceOfNat, Int32.reduceToInt] at c_1 c_9 ⊢; omega), ht⟩) (fun _ h => nomatch h) dM_isNode_17

set_option maxHeartbeats 4000000 in
set_option maxRecDepth 100000 in
theorem kJ_floorMod (l : Launch) (x y : Int32) (hy : ¬ y = 0) : Met l yJ_floorMod (wc yJ_floorMod cJ_floorMod 3 (some .int)) ({ frames := 0, cells := 0, slots := 0, locals := 0 } : Room) (va_Pc [.int x, .int y] (fun _ => True)) (vp_Si (fun r => r = jfm x y)) 0 0 (fun _ => False) := by
  refine va_MetF (cc := cJ_floorMod) (maxL := 3) (ret := (some .int)) (by decide +kernel) rfl ?_
  intro p e s m args below meth c s₁ B hml hv
  obtain ⟨rfl, -⟩ := hv
  have hx := B.exec
  have hb := B.bytes
  have hr := B.returns
  have hts : ∀ w9 ∈ ws_all, w9.before ([.int x, .int y] : List Value).toArray s = true := fun w9 h => atoms_spec (ws := (wc yJ_floorMod cJ_floorMod 3 (some .int))) B.pre w9 (List.mem_cons_of_mem _ h)
  have hown : s.vm.findClass RJ = some m.cls := findClass_of_methodNamed B.named
  have hlocks := B.notSynchronized
  have hl := lv_entry ([.int x, .int y]) (n := 3) (Nat.le_of_ble_eq_true rfl)
  rw [lg_entry_eq]
  generalize (lg_sl ([.int x, .int y]) ++ List.replicate (3 - (lg_sl ([.int x, .int y])).length) Slot.unset).toArray = ls at hl ⊢
  have hl : lv_has ls 3 [(0, .int x), (1, .int y)] := hl
  refine lv_iload_n hx hb dJ_floorMod_0 rfl (lv_at hl 0 rfl) ?_
  refine lv_iload_n hx hb dJ_floorMod_1 rfl (lv_at hl 1 rfl) ?_
  refine lv_irem hx hb dJ_floorMod_2 (hy) ?_
  refine lv_istore_n (lv' := [(2, .int (x - x / y * y)), (0, .int x), (1, .int y)]) hx hb dJ_floorMod_3 rfl hl (by decide) rfl (fun ls hl => ?_)
  refine lv_iload_n hx hb dJ_floorMod_4 rfl (lv_at hl 1 rfl) ?_
  refine lv_iload_n hx hb dJ_floorMod_5 rfl (lv_at hl 2 rfl) ?_
  refine lv_ixor hx hb dJ_floorMod_6 ?_
  refine lv_if_ge (tgt := 18) hx hb dJ_floorMod_7 (by decide) (fun c_7 => ?_) (fun c_7 => ?_)
  · skip
    refine lv_iload_n hx hb dJ_floorMod_18 rfl (lv_at hl 0 rfl) ?_
    exact W.iret (v := x - x / y * y) hx hb hr (fun t ht hW => ⟨_, rfl, by unfold jfm; rw [if_pos c_7], ht⟩) (fun _ h => nomatch h) dJ_floorMod_19
  · skip
    refine lv_iload_n hx hb dJ_floorMod_10 rfl (lv_at hl 0 rfl) ?_
    refine lv_if_eq (tgt := 18) hx hb dJ_floorMod_11 (by decide) (fun c_11 => ?_) (fun c_11 => ?_)
    · skip
      refine lv_iload_n hx hb dJ_floorMod_18 rfl (lv_at hl 0 rfl) ?_
      exact W.iret (v := x - x / y * y) hx hb hr (fun t ht hW => ⟨_, rfl, by unfold jfm; rw [if_neg c_7, if_pos c_11], ht⟩) (fun _ h => nomatch h) dJ_floorMod_19
    · skip
      refine lv_iload_n hx hb dJ_floorMod_14 rfl (lv_at hl 0 rfl) ?_
      refine lv_iload_n hx hb dJ_floorMod_15 rfl (lv_at hl 2 rfl) ?_
      refine lv_iadd hx hb dJ_floorMod_16 ?_
      exact W.iret (v := (x - x / y * y) + y) hx hb hr (fun t ht hW => ⟨_, rfl, by unfold jfm; rw [if_neg c_7, if_neg c_11], ht⟩) (fun _ h => nomatch h) dJ_floorMod_17

set_option maxHeartbeats 4000000 in
set_option maxRecDepth 100000 in
theorem kJ_floorDiv (l : Launch) (x y : Int64) (hy : ¬ y = 0) : Met l yJ_floorDiv (wc yJ_floorDiv cJ_floorDiv 6 (some .long)) ({ frames := 0, cells := 0, slots := 0, locals := 0 } : Room) (va_Pc [.long x, .long y] (fun _ => True)) (vp_Sl (fun r => r = jfd x y)) 0 0 (fun _ => False) := by
  refine va_MetF (cc := cJ_floorDiv) (maxL := 6) (ret := (some .long)) (by decide +kernel) rfl ?_
  intro p e s m args below meth c s₁ B hml hv
  obtain ⟨rfl, -⟩ := hv
  have hx := B.exec
  have hb := B.bytes
  have hr := B.returns
  have hts : ∀ w9 ∈ ws_all, w9.before ([.long x, .long y] : List Value).toArray s = true := fun w9 h => atoms_spec (ws := (wc yJ_floorDiv cJ_floorDiv 6 (some .long))) B.pre w9 (List.mem_cons_of_mem _ h)
  have hown : s.vm.findClass RJ = some m.cls := findClass_of_methodNamed B.named
  have hlocks := B.notSynchronized
  have hl := lv_entry ([.long x, .long y]) (n := 6) (Nat.le_of_ble_eq_true rfl)
  rw [lg_entry_eq]
  generalize (lg_sl ([.long x, .long y]) ++ List.replicate (6 - (lg_sl ([.long x, .long y])).length) Slot.unset).toArray = ls at hl ⊢
  have hl : lv_has ls 6 [(0, .long x), (2, .long y)] := hl
  refine lv_lload_n hx hb dJ_floorDiv_0 rfl (lv_at hl 0 rfl) ?_
  refine lv_lload_n hx hb dJ_floorDiv_1 rfl (lv_at hl 1 rfl) ?_
  refine lv_ldiv hx hb dJ_floorDiv_2 (hy) ?_
  refine lv_lstore (lv' := [(4, .long (x / y)), (0, .long x), (2, .long y)]) hx hb dJ_floorDiv_3 hl (by decide) rfl (fun ls hl => ?_)
  refine lv_lload_n hx hb dJ_floorDiv_5 rfl (lv_at hl 1 rfl) ?_
  refine lv_lload_n hx hb dJ_floorDiv_6 rfl (lv_at hl 2 rfl) ?_
  refine lv_lxor hx hb dJ_floorDiv_7 ?_
  refine lv_lconst (v := 0) hx hb dJ_floorDiv_8 (by decide) ?_
  refine W.lcmp hx hb dJ_floorDiv_9 ?_
  refine lv_if_ge (tgt := 27) hx hb dJ_floorDiv_10 (by decide) (fun c_10 => ?_) (fun c_10 => ?_)
  · skip
    refine lv_lload hx hb dJ_floorDiv_27 (lv_at hl 0 rfl) ?_
    exact W.lret (v := x / y) hx hb hr (fun t ht hW => ⟨_, rfl, by unfold jfd; rw [if_pos c_10], ht⟩) (fun _ h => nomatch h) dJ_floorDiv_29
  · skip
    refine lv_lload hx hb dJ_floorDiv_13 (lv_at hl 0 rfl) ?_
    refine lv_lload_n hx hb dJ_floorDiv_15 rfl (lv_at hl 2 rfl) ?_
    refine lv_lmul hx hb dJ_floorDiv_16 ?_
    refine lv_lload_n hx hb dJ_floorDiv_17 rfl (lv_at hl 1 rfl) ?_
    refine W.lcmp hx hb dJ_floorDiv_18 ?_
    refine lv_if_eq (tgt := 27) hx hb dJ_floorDiv_19 (by decide) (fun c_19 => ?_) (fun c_19 => ?_)
    · skip
      refine lv_lload hx hb dJ_floorDiv_27 (lv_at hl 0 rfl) ?_
      exact W.lret (v := x / y) hx hb hr (fun t ht hW => ⟨_, rfl, by unfold jfd; rw [if_neg c_10, if_pos c_19], ht⟩) (fun _ h => nomatch h) dJ_floorDiv_29
    · skip
      refine lv_lload hx hb dJ_floorDiv_22 (lv_at hl 0 rfl) ?_
      refine lv_lconst (v := 1) hx hb dJ_floorDiv_24 (by decide) ?_
      refine lv_lsub hx hb dJ_floorDiv_25 ?_
      exact W.lret (v := (x / y) - 1) hx hb hr (fun t ht hW => ⟨_, rfl, by unfold jfd; rw [if_neg c_10, if_neg c_19], ht⟩) (fun _ h => nomatch h) dJ_floorDiv_26

set_option maxHeartbeats 4000000 in
set_option maxRecDepth 100000 in
/-- SIN of the document -/
theorem kS_sine (l : Launch) (k : Int32) : Met l yS_sine (wc yS_sine cS_sine 9 (some .int)) ({ frames := 1, cells := 0, slots := 0, locals := 25 } : Room) (va_Pc [.int k] (fun _ => True)) (vp_Si (fun r => r = jsin k)) 0 0 (fun _ => False) := by
  refine Met.ofW (cc := cS_sine) (maxL := 9) (ret := (some .int)) (by decide +kernel) rfl ?_
  intro p e s m args below meth c s₁ B hml hv
  obtain ⟨rfl, -⟩ := hv
  have hx := B.exec
  have hb := B.bytes
  have hr := B.returns
  have hts : ∀ w9 ∈ ws_all, w9.before ([.int k] : List Value).toArray s = true := fun w9 h => atoms_spec (ws := (wc yS_sine cS_sine 9 (some .int))) B.pre w9 (List.mem_cons_of_mem _ h)
  have hown : s.vm.findClass RS = some m.cls := findClass_of_methodNamed B.named
  have hlocks := B.notSynchronized
  have hl := lv_entry ([.int k]) (n := 9) (Nat.le_of_ble_eq_true rfl)
  rw [lg_entry_eq]
  generalize (lg_sl ([.int k]) ++ List.replicate (9 - (lg_sl ([.int k])).length) Slot.unset).toArray = ls at hl ⊢
  have hl : lv_has ls 9 [(0, .int k)] := hl
  refine lv_iload_n hx hb dS_sine_0 rfl (lv_at hl 0 rfl) ?_
  refine lv_sipush (v := nI 4096) hx hb dS_sine_1 (by decide) ?_
  refine vp_callSi (va_Run.run (bc_runS (own := RS) (As := [.int k, .int (nI 4096)]) (rest := []) hx hb (hml.trans hl.1.symm) hown hts (kJ_floorMod l k (nI 4096) (by decide)) w_60 w_58 w_59 w_3 hd_J_floorMod rfl ⟨rfl, rfl⟩ ⟨Nat.le_of_ble_eq_true rfl, Nat.le_of_ble_eq_true rfl⟩ (fun _ _ _ _ _ => trivial) (fun _ _ _ => trivial) rfl (Nat.le_of_ble_eq_true rfl) dS_sine_4 ⟨Nat.le_of_ble_eq_true rfl, Nat.le_of_ble_eq_true rfl⟩)) (fun r_4 hr_4 => ?_)
  refine ln_asi (jang k) (by exact hr_4) ?_
  refine lv_istore_n (lv' := [(1, .int (jang k)), (0, .int k)]) hx hb dS_sine_7 rfl hl (by decide) rfl (fun ls hl => ?_)
  refine lv_iload_n hx hb dS_sine_8 rfl (lv_at hl 0 rfl) ?_
  refine lv_sipush (v := nI 2048) hx hb dS_sine_9 (by decide) ?_
  refine lv_icmp_ge (tgt := 19) hx hb dS_sine_12 (by decide) (fun c_12 => ?_) (fun c_12 => ?_)
  · skip
    refine lv_iload_n hx hb dS_sine_19 rfl (lv_at hl 0 rfl) ?_
    refine lv_sipush (v := nI 2048) hx hb dS_sine_20 (by decide) ?_
    refine lv_isub hx hb dS_sine_23 ?_
    refine ln_asi (jhalf (jang k)) (by unfold jhalf; rw [if_pos c_12]) ?_
    refine lv_istore_n (lv' := [(2, .int (jhalf (jang k))), (1, .int (jang k)), (0, .int k)]) hx hb dS_sine_24 rfl hl (by decide) rfl (fun ls hl => ?_)
    refine lv_iload_n hx hb dS_sine_25 rfl (lv_at hl 0 rfl) ?_
    refine lv_i2l (v := (jhalf (jang k)).toInt64) hx hb dS_sine_26 rfl ?_
    refine lv_sipush (v := nI 2048) hx hb dS_sine_27 (by decide) ?_
    refine lv_iload_n hx hb dS_sine_30 rfl (lv_at hl 0 rfl) ?_
    refine lv_isub hx hb dS_sine_31 ?_
    refine lv_i2l (v := ((nI 2048) - (jhalf (jang k))).toInt64) hx hb dS_sine_32 rfl ?_
    refine lv_lmul hx hb dS_sine_33 ?_
    refine ln_asl (jp (jhalf (jang k))) (by rfl) ?_
    refine lv_lstore_n (lv' := [(3, .long (jp (jhalf (jang k)))), (2, .int (jhalf (jang k))), (1, .int (jang k)), (0, .int k)]) hx hb dS_sine_34 rfl hl (by decide) rfl (fun ls hl => ?_)
    refine lv_ldc2 (own := RS) (index := 161) (v := 20971520) hx hb hown (hts _ w_61) dS_sine_35 ?_
    refine lv_ldc2 (own := RS) (index := 163) (v := 4) hx hb hown (hts _ w_62) dS_sine_38 ?_
    refine lv_lload_n hx hb dS_sine_41 rfl (lv_at hl 0 rfl) ?_
    refine lv_lmul hx hb dS_sine_42 ?_
    refine lv_lsub hx hb dS_sine_43 ?_
    refine ln_asl (jdv (jp (jhalf (jang k)))) (by rfl) ?_
    refine lv_lstore (lv' := [(5, .long (jdv (jp (jhalf (jang k))))), (3, .long (jp (jhalf (jang k)))), (2, .int (jhalf (jang k))), (1, .int (jang k)), (0, .int k)]) hx hb dS_sine_44 hl (by decide) rfl (fun ls hl => ?_)
    refine lv_lload hx hb dS_sine_46 (lv_at hl 0 rfl) ?_
    refine lv_lconst (v := 0) hx hb dS_sine_48 (by decide) ?_
    refine W.lcmp hx hb dS_sine_49 ?_
    refine lv_if_le (tgt := 66) hx hb dS_sine_50 (by decide) (fun c_50 => ?_) (fun c_50 => ?_)
    · skip
      refine lv_lconst (v := 0) hx hb dS_sine_66 (by decide) ?_
      refine ln_asl (jht (jp (jhalf (jang k)))) (by unfold jht; rw [if_pos c_50]) ?_
      refine lv_lstore (lv' := [(7, .long (jht (jp (jhalf (jang k))))), (5, .long (jdv (jp (jhalf (jang k))))), (3, .long (jp (jhalf (jang k)))), (2, .int (jhalf (jang k))), (1, .int (jang k)), (0, .int k)]) hx hb dS_sine_67 hl (by decide) rfl (fun ls hl => ?_)
      refine lv_iload_n hx hb dS_sine_69 rfl (lv_at hl 4 rfl) ?_
      refine lv_sipush (v := nI 2048) hx hb dS_sine_70 (by decide) ?_
      refine lv_icmp_ge (tgt := 81) hx hb dS_sine_73 (by decide) (fun c_73 => ?_) (fun c_73 => ?_)
      · skip
        refine lv_lload hx hb dS_sine_81 (lv_at hl 0 rfl) ?_
        refine lv_lneg hx hb dS_sine_83 ?_
        refine ln_asl (jsg (jang k) (jht (jp (jhalf (jang k))))) (by unfold jsg; rw [if_pos c_73]) ?_
        refine lv_l2i (v := (jsg (jang k) (jht (jp (jhalf (jang k))))).toInt32) hx hb dS_sine_84 rfl ?_
        exact W.iret (v := (jsg (jang k) (jht (jp (jhalf (jang k))))).toInt32) hx hb hr (fun t ht hW => ⟨_, rfl, rfl, ht⟩) (fun _ h => nomatch h) dS_sine_85
      · skip
        refine lv_lload hx hb dS_sine_76 (lv_at hl 0 rfl) ?_
        refine lv_goto (tgt := 84) hx hb dS_sine_78 (by decide) ?_
        refine ln_asl (jsg (jang k) (jht (jp (jhalf (jang k))))) (by unfold jsg; rw [if_neg c_73]) ?_
        refine lv_l2i (v := (jsg (jang k) (jht (jp (jhalf (jang k))))).toInt32) hx hb dS_sine_84 rfl ?_
        exact W.iret (v := (jsg (jang k) (jht (jp (jhalf (jang k))))).toInt32) hx hb hr (fun t ht hW => ⟨_, rfl, rfl, ht⟩) (fun _ h => nomatch h) dS_sine_85
    · skip
      refine lv_ldc2 (own := RS) (index := 165) (v := 1048576) hx hb hown (hts _ w_63) dS_sine_53 ?_
      refine lv_lload_n hx hb dS_sine_56 rfl (lv_at hl 1 rfl) ?_
      refine lv_lmul hx hb dS_sine_57 ?_
      refine lv_lload hx hb dS_sine_58 (lv_at hl 0 rfl) ?_
      refine vp_callSl (va_Run.run (bc_runS (own := RS) (As := [.long (1048576 * (jp (jhalf (jang k)))), .long (jdv (jp (jhalf (jang k))))]) (rest := []) hx hb (hml.trans hl.1.symm) hown hts (kJ_floorDiv l (1048576 * (jp (jhalf (jang k)))) (jdv (jp (jhalf (jang k)))) (fun h => c_50 (by rw [h]; decide))) w_66 w_64 w_65 w_3 hd_J_floorDiv rfl ⟨rfl, rfl⟩ ⟨Nat.le_of_ble_eq_true rfl, Nat.le_of_ble_eq_true rfl⟩ (fun _ _ _ _ _ => trivial) (fun _ _ _ => trivial) rfl (Nat.le_of_ble_eq_true rfl) dS_sine_60 ⟨Nat.le_of_ble_eq_true rfl, Nat.le_of_ble_eq_true rfl⟩)) (fun r_60 hr_60 => ?_)
      refine lv_goto (tgt := 67) hx hb dS_sine_63 (by decide) ?_
      refine ln_asl (jht (jp (jhalf (jang k)))) (by rw [hr_60]; unfold jht; rw [if_neg c_50]) ?_
      refine lv_lstore (lv' := [(7, .long (jht (jp (jhalf (jang k))))), (5, .long (jdv (jp (jhalf (jang k))))), (3, .long (jp (jhalf (jang k)))), (2, .int (jhalf (jang k))), (1, .int (jang k)), (0, .int k)]) hx hb dS_sine_67 hl (by decide) rfl (fun ls hl => ?_)
      refine lv_iload_n hx hb dS_sine_69 rfl (lv_at hl 4 rfl) ?_
      refine lv_sipush (v := nI 2048) hx hb dS_sine_70 (by decide) ?_
      refine lv_icmp_ge (tgt := 81) hx hb dS_sine_73 (by decide) (fun c_73 => ?_) (fun c_73 => ?_)
      · skip
        refine lv_lload hx hb dS_sine_81 (lv_at hl 0 rfl) ?_
        refine lv_lneg hx hb dS_sine_83 ?_
        refine ln_asl (jsg (jang k) (jht (jp (jhalf (jang k))))) (by unfold jsg; rw [if_pos c_73]) ?_
        refine lv_l2i (v := (jsg (jang k) (jht (jp (jhalf (jang k))))).toInt32) hx hb dS_sine_84 rfl ?_
        exact W.iret (v := (jsg (jang k) (jht (jp (jhalf (jang k))))).toInt32) hx hb hr (fun t ht hW => ⟨_, rfl, rfl, ht⟩) (fun _ h => nomatch h) dS_sine_85
      · skip
        refine lv_lload hx hb dS_sine_76 (lv_at hl 0 rfl) ?_
        refine lv_goto (tgt := 84) hx hb dS_sine_78 (by decide) ?_
        refine ln_asl (jsg (jang k) (jht (jp (jhalf (jang k))))) (by unfold jsg; rw [if_neg c_73]) ?_
        refine lv_l2i (v := (jsg (jang k) (jht (jp (jhalf (jang k))))).toInt32) hx hb dS_sine_84 rfl ?_
        exact W.iret (v := (jsg (jang k) (jht (jp (jhalf (jang k))))).toInt32) hx hb hr (fun t ht hW => ⟨_, rfl, rfl, ht⟩) (fun _ h => nomatch h) dS_sine_85
  · skip
    refine lv_iload_n hx hb dS_sine_15 rfl (lv_at hl 0 rfl) ?_
    refine lv_goto (tgt := 24) hx hb dS_sine_16 (by decide) ?_
    refine ln_asi (jhalf (jang k)) (by unfold jhalf; rw [if_neg c_12]) ?_
    refine lv_istore_n (lv' := [(2, .int (jhalf (jang k))), (1, .int (jang k)), (0, .int k)]) hx hb dS_sine_24 rfl hl (by decide) rfl (fun ls hl => ?_)
    refine lv_iload_n hx hb dS_sine_25 rfl (lv_at hl 0 rfl) ?_
    refine lv_i2l (v := (jhalf (jang k)).toInt64) hx hb dS_sine_26 rfl ?_
    refine lv_sipush (v := nI 2048) hx hb dS_sine_27 (by decide) ?_
    refine lv_iload_n hx hb dS_sine_30 rfl (lv_at hl 0 rfl) ?_
    refine lv_isub hx hb dS_sine_31 ?_
    refine lv_i2l (v := ((nI 2048) - (jhalf (jang k))).toInt64) hx hb dS_sine_32 rfl ?_
    refine lv_lmul hx hb dS_sine_33 ?_
    refine ln_asl (jp (jhalf (jang k))) (by rfl) ?_
    refine lv_lstore_n (lv' := [(3, .long (jp (jhalf (jang k)))), (2, .int (jhalf (jang k))), (1, .int (jang k)), (0, .int k)]) hx hb dS_sine_34 rfl hl (by decide) rfl (fun ls hl => ?_)
    refine lv_ldc2 (own := RS) (index := 161) (v := 20971520) hx hb hown (hts _ w_61) dS_sine_35 ?_
    refine lv_ldc2 (own := RS) (index := 163) (v := 4) hx hb hown (hts _ w_62) dS_sine_38 ?_
    refine lv_lload_n hx hb dS_sine_41 rfl (lv_at hl 0 rfl) ?_
    refine lv_lmul hx hb dS_sine_42 ?_
    refine lv_lsub hx hb dS_sine_43 ?_
    refine ln_asl (jdv (jp (jhalf (jang k)))) (by rfl) ?_
    refine lv_lstore (lv' := [(5, .long (jdv (jp (jhalf (jang k))))), (3, .long (jp (jhalf (jang k)))), (2, .int (jhalf (jang k))), (1, .int (jang k)), (0, .int k)]) hx hb dS_sine_44 hl (by decide) rfl (fun ls hl => ?_)
    refine lv_lload hx hb dS_sine_46 (lv_at hl 0 rfl) ?_
    refine lv_lconst (v := 0) hx hb dS_sine_48 (by decide) ?_
    refine W.lcmp hx hb dS_sine_49 ?_
    refine lv_if_le (tgt := 66) hx hb dS_sine_50 (by decide) (fun c_50 => ?_) (fun c_50 => ?_)
    · skip
      refine lv_lconst (v := 0) hx hb dS_sine_66 (by decide) ?_
      refine ln_asl (jht (jp (jhalf (jang k)))) (by unfold jht; rw [if_pos c_50]) ?_
      refine lv_lstore (lv' := [(7, .long (jht (jp (jhalf (jang k))))), (5, .long (jdv (jp (jhalf (jang k))))), (3, .long (jp (jhalf (jang k)))), (2, .int (jhalf (jang k))), (1, .int (jang k)), (0, .int k)]) hx hb dS_sine_67 hl (by decide) rfl (fun ls hl => ?_)
      refine lv_iload_n hx hb dS_sine_69 rfl (lv_at hl 4 rfl) ?_
      refine lv_sipush (v := nI 2048) hx hb dS_sine_70 (by decide) ?_
      refine lv_icmp_ge (tgt := 81) hx hb dS_sine_73 (by decide) (fun c_73 => ?_) (fun c_73 => ?_)
      · skip
        refine lv_lload hx hb dS_sine_81 (lv_at hl 0 rfl) ?_
        refine lv_lneg hx hb dS_sine_83 ?_
        refine ln_asl (jsg (jang k) (jht (jp (jhalf (jang k))))) (by unfold jsg; rw [if_pos c_73]) ?_
        refine lv_l2i (v := (jsg (jang k) (jht (jp (jhalf (jang k))))).toInt32) hx hb dS_sine_84 rfl ?_
        exact W.iret (v := (jsg (jang k) (jht (jp (jhalf (jang k))))).toInt32) hx hb hr (fun t ht hW => ⟨_, rfl, rfl, ht⟩) (fun _ h => nomatch h) dS_sine_85
      · skip
        refine lv_lload hx hb dS_sine_76 (lv_at hl 0 rfl) ?_
        refine lv_goto (tgt := 84) hx hb dS_sine_78 (by decide) ?_
        refine ln_asl (jsg (jang k) (jht (jp (jhalf (jang k))))) (by unfold jsg; rw [if_neg c_73]) ?_
        refine lv_l2i (v := (jsg (jang k) (jht (jp (jhalf (jang k))))).toInt32) hx hb dS_sine_84 rfl ?_
        exact W.iret (v := (jsg (jang k) (jht (jp (jhalf (jang k))))).toInt32) hx hb hr (fun t ht hW => ⟨_, rfl, rfl, ht⟩) (fun _ h => nomatch h) dS_sine_85
    · skip
      refine lv_ldc2 (own := RS) (index := 165) (v := 1048576) hx hb hown (hts _ w_63) dS_sine_53 ?_
      refine lv_lload_n hx hb dS_sine_56 rfl (lv_at hl 1 rfl) ?_
      refine lv_lmul hx hb dS_sine_57 ?_
      refine lv_lload hx hb dS_sine_58 (lv_at hl 0 rfl) ?_
      refine vp_callSl (va_Run.run (bc_runS (own := RS) (As := [.long (1048576 * (jp (jhalf (jang k)))), .long (jdv (jp (jhalf (jang k))))]) (rest := []) hx hb (hml.trans hl.1.symm) hown hts (kJ_floorDiv l (1048576 * (jp (jhalf (jang k)))) (jdv (jp (jhalf (jang k)))) (fun h => c_50 (by rw [h]; decide))) w_66 w_64 w_65 w_3 hd_J_floorDiv rfl ⟨rfl, rfl⟩ ⟨Nat.le_of_ble_eq_true rfl, Nat.le_of_ble_eq_true rfl⟩ (fun _ _ _ _ _ => trivial) (fun _ _ _ => trivial) rfl (Nat.le_of_ble_eq_true rfl) dS_sine_60 ⟨Nat.le_of_ble_eq_true rfl, Nat.le_of_ble_eq_true rfl⟩)) (fun r_60 hr_60 => ?_)
      refine lv_goto (tgt := 67) hx hb dS_sine_63 (by decide) ?_
      refine ln_asl (jht (jp (jhalf (jang k)))) (by rw [hr_60]; unfold jht; rw [if_neg c_50]) ?_
      refine lv_lstore (lv' := [(7, .long (jht (jp (jhalf (jang k))))), (5, .long (jdv (jp (jhalf (jang k))))), (3, .long (jp (jhalf (jang k)))), (2, .int (jhalf (jang k))), (1, .int (jang k)), (0, .int k)]) hx hb dS_sine_67 hl (by decide) rfl (fun ls hl => ?_)
      refine lv_iload_n hx hb dS_sine_69 rfl (lv_at hl 4 rfl) ?_
      refine lv_sipush (v := nI 2048) hx hb dS_sine_70 (by decide) ?_
      refine lv_icmp_ge (tgt := 81) hx hb dS_sine_73 (by decide) (fun c_73 => ?_) (fun c_73 => ?_)
      · skip
        refine lv_lload hx hb dS_sine_81 (lv_at hl 0 rfl) ?_
        refine lv_lneg hx hb dS_sine_83 ?_
        refine ln_asl (jsg (jang k) (jht (jp (jhalf (jang k))))) (by unfold jsg; rw [if_pos c_73]) ?_
        refine lv_l2i (v := (jsg (jang k) (jht (jp (jhalf (jang k))))).toInt32) hx hb dS_sine_84 rfl ?_
        exact W.iret (v := (jsg (jang k) (jht (jp (jhalf (jang k))))).toInt32) hx hb hr (fun t ht hW => ⟨_, rfl, rfl, ht⟩) (fun _ h => nomatch h) dS_sine_85
      · skip
        refine lv_lload hx hb dS_sine_76 (lv_at hl 0 rfl) ?_
        refine lv_goto (tgt := 84) hx hb dS_sine_78 (by decide) ?_
        refine ln_asl (jsg (jang k) (jht (jp (jhalf (jang k))))) (by unfold jsg; rw [if_neg c_73]) ?_
        refine lv_l2i (v := (jsg (jang k) (jht (jp (jhalf (jang k))))).toInt32) hx hb dS_sine_84 rfl ?_
        exact W.iret (v := (jsg (jang k) (jht (jp (jhalf (jang k))))).toInt32) hx hb hr (fun t ht hW => ⟨_, rfl, rfl, ht⟩) (fun _ h => nomatch h) dS_sine_85
end
section
/-! THE CLASS'S MATRICES -/
def jsum (a b : Nat → Int32) (i j : Nat) : Int64 := jmul (a (4 * i)).toInt64 (b j).toInt64 + jmul (a (4 * i + 1)).toInt64 (b (4 + j)).toInt64 + jmul (a (4 * i + 2)).toInt64 (b (8 + j)).toInt64
def jprod (a b : Nat → Int32) (i j : Nat) : Int32 := (jcl (if j = 3 then jsum a b i j + (a (4 * i + 3)).toInt64 else jsum a b i j)).toInt32
abbrev sc12 (cs : Nat → ClassId) (ad : Nat → Nat) (k : Nat) : Prop := ∀ r : Nat → Int32, sc_cell cs ad k r = .inl (cs 0, 12, .inl r)

set_option maxHeartbeats 4000000 in
set_option maxRecDepth 100000 in
/-- (A * B) at i, j -/
theorem kS_productAt (l : Launch) (D : va_G) (cs : Nat → ClassId) (ad : Nat → Nat) (hI : bw_I ad 162) (M : Nat → Nat → Int32) (sz : Nat) (ka kb : Nat) (hka : ka < 162) (hkb : kb < 162) (fa : sc12 cs ad ka) (fb : sc12 cs ad kb) (i j : Nat) (hi : i < 3) (hj : j < 4)  : Met l yS_productAt (wc yS_productAt cS_productAt 7 (some .int)) ({ frames := 2, cells := 0, slots := 0, locals := 38 } : Room) (va_Pc [.ref (ad ka), .ref (ad kb), .int (nI i), .int (nI j)] (sP D cs ad M sz)) (vp_Si (fun r => r = jprod (M ka) (M kb) i j)) 0 0 (fun _ => False) := by
  refine Met.ofW (cc := cS_productAt) (maxL := 7) (ret := (some .int)) (by decide +kernel) rfl ?_
  intro p e s m args below meth c s₁ B hml hv
  obtain ⟨rfl, hsz, hP, hE⟩ := hv
  subst hsz
  have hx := B.exec
  have hb := B.bytes
  have hr := B.returns
  have hts : ∀ w9 ∈ ws_all, w9.before ([.ref (ad ka), .ref (ad kb), .int (nI i), .int (nI j)] : List Value).toArray s = true := fun w9 h => atoms_spec (ws := (wc yS_productAt cS_productAt 7 (some .int))) B.pre w9 (List.mem_cons_of_mem _ h)
  have hown : s.vm.findClass RS = some m.cls := findClass_of_methodNamed B.named
  have hlocks := B.notSynchronized
  have hl := lv_entry ([.ref (ad ka), .ref (ad kb), .int (nI i), .int (nI j)]) (n := 7) (Nat.le_of_ble_eq_true rfl)
  rw [lg_entry_eq]
  generalize (lg_sl ([.ref (ad ka), .ref (ad kb), .int (nI i), .int (nI j)]) ++ List.replicate (7 - (lg_sl ([.ref (ad ka), .ref (ad kb), .int (nI i), .int (nI j)])).length) Slot.unset).toArray = ls at hl ⊢
  have hl : lv_has ls 7 [(0, .ref (ad ka)), (1, .ref (ad kb)), (2, .int (nI i)), (3, .int (nI j))] := hl
  refine lv_iconst (v := nI 4) hx hb dS_productAt_0 (by decide) ?_
  refine lv_iload_n hx hb dS_productAt_1 rfl (lv_at hl 2 rfl) ?_
  refine ln_imul hx hb dS_productAt_2 ?_
  refine lv_istore (lv' := [(4, .int (nI (4 * i))), (0, .ref (ad ka)), (1, .ref (ad kb)), (2, .int (nI i)), (3, .int (nI j))]) hx hb dS_productAt_3 hl (by decide) rfl (fun ls hl => ?_)
  refine lv_aload_n hx hb dS_productAt_5 rfl (lv_at hl 1 rfl) ?_
  refine lv_iload hx hb dS_productAt_6 (lv_at hl 0 rfl) ?_
  refine ln_iald (L := 12) (g := (M ka)) hx hb hE hP ka 0 (hka) (fa _) rfl (by omega) (by decide) dS_productAt_8 ?_
  refine lv_i2l (v := (M ka (4 * i)).toInt64) hx hb dS_productAt_9 rfl ?_
  refine lv_aload_n hx hb dS_productAt_10 rfl (lv_at hl 2 rfl) ?_
  refine lv_iload_n hx hb dS_productAt_11 rfl (lv_at hl 4 rfl) ?_
  refine ln_iald (L := 12) (g := (M kb)) hx hb hE hP kb 0 (hkb) (fb _) rfl (by omega) (by decide) dS_productAt_12 ?_
  refine lv_i2l (v := (M kb j).toInt64) hx hb dS_productAt_13 rfl ?_
  refine vp_callSl (va_Run.run (bc_runS (own := RS) (As := [.long ((M ka (4 * i)).toInt64), .long ((M kb j).toInt64)]) (rest := []) hx hb (hml.trans hl.1.symm) hown hts (kS_mul l ((M ka (4 * i)).toInt64) ((M kb j).toInt64)) w_76 w_74 w_75 w_1 hd_S_mul rfl ⟨rfl, rfl⟩ ⟨Nat.le_of_ble_eq_true rfl, Nat.le_of_ble_eq_true rfl⟩ (fun _ _ _ _ _ => trivial) (fun _ _ _ => trivial) rfl (Nat.le_of_ble_eq_true rfl) dS_productAt_14 ⟨Nat.le_of_ble_eq_true rfl, Nat.le_of_ble_eq_true rfl⟩)) (fun r_14 hr_14 => ?_)
  refine ln_asl (jmul (M ka (4 * i)).toInt64 (M kb j).toInt64) (by exact hr_14) ?_
  refine lv_aload_n hx hb dS_productAt_17 rfl (lv_at hl 1 rfl) ?_
  refine lv_iload hx hb dS_productAt_18 (lv_at hl 0 rfl) ?_
  refine lv_iconst (v := nI 1) hx hb dS_productAt_20 (by decide) ?_
  refine ln_iadd hx hb dS_productAt_21 ?_
  refine ln_iald (L := 12) (g := (M ka)) hx hb hE hP ka 0 (hka) (fa _) rfl (by omega) (by decide) dS_productAt_22 ?_
  refine lv_i2l (v := (M ka ((4 * i) + 1)).toInt64) hx hb dS_productAt_23 rfl ?_
  refine lv_aload_n hx hb dS_productAt_24 rfl (lv_at hl 2 rfl) ?_
  refine lv_iconst (v := nI 4) hx hb dS_productAt_25 (by decide) ?_
  refine lv_iload_n hx hb dS_productAt_26 rfl (lv_at hl 4 rfl) ?_
  refine ln_iadd hx hb dS_productAt_27 ?_
  refine ln_iald (L := 12) (g := (M kb)) hx hb hE hP kb 0 (hkb) (fb _) rfl (by omega) (by decide) dS_productAt_28 ?_
  refine lv_i2l (v := (M kb (4 + j)).toInt64) hx hb dS_productAt_29 rfl ?_
  refine vp_callSl (va_Run.run (bc_runS (own := RS) (As := [.long ((M ka ((4 * i) + 1)).toInt64), .long ((M kb (4 + j)).toInt64)]) (rest := [.long (jmul (M ka (4 * i)).toInt64 (M kb j).toInt64)]) hx hb (hml.trans hl.1.symm) hown hts (kS_mul l ((M ka ((4 * i) + 1)).toInt64) ((M kb (4 + j)).toInt64)) w_76 w_74 w_75 w_1 hd_S_mul rfl ⟨rfl, rfl⟩ ⟨Nat.le_of_ble_eq_true rfl, Nat.le_of_ble_eq_true rfl⟩ (fun _ _ _ _ _ => trivial) (fun _ _ _ => trivial) rfl (Nat.le_of_ble_eq_true rfl) dS_productAt_30 ⟨Nat.le_of_ble_eq_true rfl, Nat.le_of_ble_eq_true rfl⟩)) (fun r_30 hr_30 => ?_)
  refine ln_asl (jmul (M ka (4 * i + 1)).toInt64 (M kb (4 + j)).toInt64) (by exact hr_30) ?_
  refine lv_ladd hx hb dS_productAt_33 ?_
  refine lv_aload_n hx hb dS_productAt_34 rfl (lv_at hl 1 rfl) ?_
  refine lv_iload hx hb dS_productAt_35 (lv_at hl 0 rfl) ?_
  refine lv_iconst (v := nI 2) hx hb dS_productAt_37 (by decide) ?_
  refine ln_iadd hx hb dS_productAt_38 ?_
  refine ln_iald (L := 12) (g := (M ka)) hx hb hE hP ka 0 (hka) (fa _) rfl (by omega) (by decide) dS_productAt_39 ?_
  refine lv_i2l (v := (M ka ((4 * i) + 2)).toInt64) hx hb dS_productAt_40 rfl ?_
  refine lv_aload_n hx hb dS_productAt_41 rfl (lv_at hl 2 rfl) ?_
  refine lv_bipush (v := nI 8) hx hb dS_productAt_42 (by decide) ?_
  refine lv_iload_n hx hb dS_productAt_44 rfl (lv_at hl 4 rfl) ?_
  refine ln_iadd hx hb dS_productAt_45 ?_
  refine ln_iald (L := 12) (g := (M kb)) hx hb hE hP kb 0 (hkb) (fb _) rfl (by omega) (by decide) dS_productAt_46 ?_
  refine lv_i2l (v := (M kb (8 + j)).toInt64) hx hb dS_productAt_47 rfl ?_
  refine vp_callSl (va_Run.run (bc_runS (own := RS) (As := [.long ((M ka ((4 * i) + 2)).toInt64), .long ((M kb (8 + j)).toInt64)]) (rest := [.long ((jmul (M ka (4 * i)).toInt64 (M kb j).toInt64) + (jmul (M ka (4 * i + 1)).toInt64 (M kb (4 + j)).toInt64))]) hx hb (hml.trans hl.1.symm) hown hts (kS_mul l ((M ka ((4 * i) + 2)).toInt64) ((M kb (8 + j)).toInt64)) w_76 w_74 w_75 w_1 hd_S_mul rfl ⟨rfl, rfl⟩ ⟨Nat.le_of_ble_eq_true rfl, Nat.le_of_ble_eq_true rfl⟩ (fun _ _ _ _ _ => trivial) (fun _ _ _ => trivial) rfl (Nat.le_of_ble_eq_true rfl) dS_productAt_48 ⟨Nat.le_of_ble_eq_true rfl, Nat.le_of_ble_eq_true rfl⟩)) (fun r_48 hr_48 => ?_)
  refine ln_asl (jmul (M ka (4 * i + 2)).toInt64 (M kb (8 + j)).toInt64) (by exact hr_48) ?_
  refine lv_ladd hx hb dS_productAt_51 ?_
  refine ln_asl (jsum (M ka) (M kb) i j) (by rfl) ?_
  refine lv_lstore (lv' := [(5, .long (jsum (M ka) (M kb) i j)), (4, .int (nI (4 * i))), (0, .ref (ad ka)), (1, .ref (ad kb)), (2, .int (nI i)), (3, .int (nI j))]) hx hb dS_productAt_52 hl (by decide) rfl (fun ls hl => ?_)
  refine lv_iload_n hx hb dS_productAt_54 rfl (lv_at hl 5 rfl) ?_
  refine lv_iconst (v := nI 3) hx hb dS_productAt_55 (by decide) ?_
  refine ln_icmp_ne (tgt := 72) hx hb dS_productAt_56 (by decide) (by omega) (by omega) (fun c_56 => ?_) (fun c_56 => ?_)
  · skip
    refine lv_lload hx hb dS_productAt_72 (lv_at hl 0 rfl) ?_
    refine vp_callSi (va_Run.run (bc_runS (own := RS) (As := [.long (jsum (M ka) (M kb) i j)]) (rest := []) hx hb (hml.trans hl.1.symm) hown hts (kS_bound l (jsum (M ka) (M kb) i j)) w_79 w_77 w_78 w_1 hd_S_bound rfl ⟨rfl, rfl⟩ ⟨Nat.le_of_ble_eq_true rfl, Nat.le_of_ble_eq_true rfl⟩ (fun _ _ _ _ _ => trivial) (fun _ _ _ => trivial) rfl (Nat.le_of_ble_eq_true rfl) dS_productAt_74 ⟨Nat.le_of_ble_eq_true rfl, Nat.le_of_ble_eq_true rfl⟩)) (fun r_74 hr_74 => ?_)
    exact W.iret (v := r_74) hx hb hr (fun t ht hW => ⟨_, rfl, by rw [hr_74]; unfold jprod; rw [if_neg c_56], ht⟩) (fun _ h => nomatch h) dS_productAt_77
  · skip
    refine lv_lload hx hb dS_productAt_59 (lv_at hl 0 rfl) ?_
    refine lv_aload_n hx hb dS_productAt_61 rfl (lv_at hl 2 rfl) ?_
    refine lv_iload hx hb dS_productAt_62 (lv_at hl 1 rfl) ?_
    refine lv_iconst (v := nI 3) hx hb dS_productAt_64 (by decide) ?_
    refine ln_iadd hx hb dS_productAt_65 ?_
    refine ln_iald (L := 12) (g := (M ka)) hx hb hE hP ka 0 (hka) (fa _) rfl (by omega) (by decide) dS_productAt_66 ?_
    refine lv_i2l (v := (M ka ((4 * i) + 3)).toInt64) hx hb dS_productAt_67 rfl ?_
    refine lv_ladd hx hb dS_productAt_68 ?_
    refine lv_goto (tgt := 74) hx hb dS_productAt_69 (by decide) ?_
    refine vp_callSi (va_Run.run (bc_runS (own := RS) (As := [.long ((jsum (M ka) (M kb) i j) + ((M ka ((4 * i) + 3)).toInt64))]) (rest := []) hx hb (hml.trans hl.1.symm) hown hts (kS_bound l ((jsum (M ka) (M kb) i j) + ((M ka ((4 * i) + 3)).toInt64))) w_79 w_77 w_78 w_1 hd_S_bound rfl ⟨rfl, rfl⟩ ⟨Nat.le_of_ble_eq_true rfl, Nat.le_of_ble_eq_true rfl⟩ (fun _ _ _ _ _ => trivial) (fun _ _ _ => trivial) rfl (Nat.le_of_ble_eq_true rfl) dS_productAt_74 ⟨Nat.le_of_ble_eq_true rfl, Nat.le_of_ble_eq_true rfl⟩)) (fun r_74 hr_74 => ?_)
    exact W.iret (v := r_74) hx hb hr (fun t ht hW => ⟨_, rfl, by rw [hr_74]; unfold jprod; rw [if_pos c_56], ht⟩) (fun _ h => nomatch h) dS_productAt_77

theorem mul_step {M M1 M2 : Nat → Nat → Int32} {ka kb kc i j : Nat} {r : Int32} (h : (∀ q, q ≠ kc → M1 q = M q) ∧ ∀ a b, a < 3 → b < 4 → 4 * a + b < 4 * i + j → M1 kc (4 * a + b) = jprod (M ka) (M kb) a b) (e : M2 = va_up M1 kc (upd (M1 kc) (4 * i + j) r)) (hr : r = jprod (M ka) (M kb) i j) (hi : i < 3) (hj : j < 4) : (∀ q, q ≠ kc → M2 q = M q) ∧ ∀ a b, a < 3 → b < 4 → 4 * a + b < 4 * i + (j + 1) → M2 kc (4 * a + b) = jprod (M ka) (M kb) a b := by
  subst e
  refine ⟨fun q hq => by rw [va_up_ne _ _ hq]; exact h.1 q hq, fun a b h1 h2 h3 => ?_⟩
  rw [va_up_self]
  by_cases hq : 4 * a + b = 4 * i + j
  · have h4 : a = i ∧ b = j := by omega
    obtain ⟨rfl, rfl⟩ := h4
    rw [pk_us, hr]
  · rw [pk_un hq]
    exact h.2 a b h1 h2 (by omega)

set_option maxHeartbeats 4000000 in
set_option maxRecDepth 100000 in
/-- the product, into a third matrix -/
theorem kS_multiply (l : Launch) (D : va_G) (cs : Nat → ClassId) (ad : Nat → Nat) (hI : bw_I ad 162) (M : Nat → Nat → Int32) (sz : Nat) (ka kb kc : Nat) (hka : ka < 162) (hkb : kb < 162) (hkc : kc < 162) (fa : sc12 cs ad ka) (fb : sc12 cs ad kb) (fc : sc12 cs ad kc) (ha : ka ≠ kc) (hb0 : kb ≠ kc)  : Met l yS_multiply (wc yS_multiply cS_multiply 5 none) ({ frames := 3, cells := 0, slots := 0, locals := 64 } : Room) (va_Pc [.ref (ad ka), .ref (ad kb), .ref (ad kc)] (sP D cs ad M sz)) (bQv D ad 162 (sc_cell cs ad) sz (fun M1 => (∀ q, q ≠ kc → M1 q = M q) ∧ ∀ i j, i < 3 → j < 4 → M1 kc (4 * i + j) = jprod (M ka) (M kb) i j)) 0 0 (bw_A ad 162 sz) := by
  refine Met.ofW (cc := cS_multiply) (maxL := 5) (ret := none) (by decide +kernel) rfl ?_
  intro p e s m args below meth c s₁ B hml hv
  obtain ⟨rfl, hsz, hP, hE⟩ := hv
  subst hsz
  have hx := B.exec
  have hb := B.bytes
  have hr := B.returns
  have hts : ∀ w9 ∈ ws_all, w9.before ([.ref (ad ka), .ref (ad kb), .ref (ad kc)] : List Value).toArray s = true := fun w9 h => atoms_spec (ws := (wc yS_multiply cS_multiply 5 none)) B.pre w9 (List.mem_cons_of_mem _ h)
  have hown : s.vm.findClass RS = some m.cls := findClass_of_methodNamed B.named
  have hlocks := B.notSynchronized
  have hS : va_S (bw_A ad 162 s.heap.size) s.heap s.heap [] := va_S.rf
  have hl := lv_entry ([.ref (ad ka), .ref (ad kb), .ref (ad kc)]) (n := 5) (Nat.le_of_ble_eq_true rfl)
  rw [lg_entry_eq]
  generalize (lg_sl ([.ref (ad ka), .ref (ad kb), .ref (ad kc)]) ++ List.replicate (5 - (lg_sl ([.ref (ad ka), .ref (ad kb), .ref (ad kc)])).length) Slot.unset).toArray = ls at hl ⊢
  have hl : lv_has ls 5 [(0, .ref (ad ka)), (1, .ref (ad kb)), (2, .ref (ad kc))] := hl
  have loop : ∀ k : Nat, (∀ (i : Nat)  (M1 : Nat → Nat → Int32) (H : Heap) (locs : List Loc) (ls : Array Slot), i ≤ 3 → ((∀ q, q ≠ kc → M1 q = M q) ∧ ∀ a b, a < 3 → b < 4 → 4 * a + b < 4 * i → M1 kc (4 * a + b) = jprod (M ka) (M kb) a b) → 6 * (3 - i) < k → va_P D cls3 (bw ad 162 (fun j => sc_cell cs ad j (M1 j))) H → va_S (bw_A ad 162 s.heap.size) s.heap H locs → lv_has ls 5 [(3, .int (nI i)), (0, .ref (ad ka)), (1, .ref (ad kb)), (2, .ref (ad kc))] → W p l e (headSpec (wc yS_multiply cS_multiply 5 none) ({ frames := 3, cells := 0, slots := 0, locals := 64 } : Room)).room s m ([.ref (ad ka), .ref (ad kb), .ref (ad kc)] : List Value).toArray below meth c H locs 0 0 (MQ below (bQv D ad 162 (sc_cell cs ad) s.heap.size (fun M1 => (∀ q, q ≠ kc → M1 q = M q) ∧ ∀ i j, i < 3 → j < 4 → M1 kc (4 * i + j) = jprod (M ka) (M kb) i j)) ([.ref (ad ka), .ref (ad kb), .ref (ad kc)] : List Value).toArray s 0 0 (bw_A ad 162 s.heap.size)) (F0 m 2 ls [])) ∧ (∀ (i : Nat) (j : Nat)  (M1 : Nat → Nat → Int32) (H : Heap) (locs : List Loc) (ls : Array Slot), i < 3 → j ≤ 4 → ((∀ q, q ≠ kc → M1 q = M q) ∧ ∀ a b, a < 3 → b < 4 → 4 * a + b < 4 * i + j → M1 kc (4 * a + b) = jprod (M ka) (M kb) a b) → 6 * (3 - i) - 1 - j < k → va_P D cls3 (bw ad 162 (fun j => sc_cell cs ad j (M1 j))) H → va_S (bw_A ad 162 s.heap.size) s.heap H locs → lv_has ls 5 [(3, .int (nI i)), (4, .int (nI j)), (0, .ref (ad ka)), (1, .ref (ad kb)), (2, .ref (ad kc))] → W p l e (headSpec (wc yS_multiply cS_multiply 5 none) ({ frames := 3, cells := 0, slots := 0, locals := 64 } : Room)).room s m ([.ref (ad ka), .ref (ad kb), .ref (ad kc)] : List Value).toArray below meth c H locs 0 0 (MQ below (bQv D ad 162 (sc_cell cs ad) s.heap.size (fun M1 => (∀ q, q ≠ kc → M1 q = M q) ∧ ∀ i j, i < 3 → j < 4 → M1 kc (4 * i + j) = jprod (M ka) (M kb) i j)) ([.ref (ad ka), .ref (ad kb), .ref (ad kc)] : List Value).toArray s 0 0 (bw_A ad 162 s.heap.size)) (F0 m 10 ls [])) := by
    intro k
    induction k with
    | zero => exact ⟨by intros; omega, by intros; omega⟩
    | succ k ih =>
      refine ⟨?_, ?_⟩
      · skip
        intro i  M1 H locs ls hi hinv hmu hP hS hl
        refine lv_iload_n hx hb dS_multiply_2 rfl (lv_at hl 0 rfl) ?_
        refine lv_iconst (v := nI 3) hx hb dS_multiply_3 (by decide) ?_
        refine ln_icmp_ge (tgt := 44) hx hb dS_multiply_4 (by decide) (by omega) (by omega) (fun c_4 => ?_) (fun c_4 => ?_)
        · skip
          exact W.vret hx hb hr (fun t ht hW => ⟨⟨M1, rfl, ⟨hinv.1, fun a b h1 h2 => hinv.2 a b h1 h2 (by omega)⟩, by show va_P _ _ _ t.heap; rw [ht]; exact hP⟩, hS.F ht⟩) hS.2.2 dS_multiply_44
        · skip
          refine lv_iconst (v := nI 0) hx hb dS_multiply_7 (by decide) ?_
          refine lv_istore (lv' := [(4, .int (nI 0)), (3, .int (nI i)), (0, .ref (ad ka)), (1, .ref (ad kb)), (2, .ref (ad kc))]) hx hb dS_multiply_8 hl (by decide) rfl (fun ls hl => ?_)
          exact ih.2 i 0  M1 H locs ls (by omega) (by omega) (⟨hinv.1, fun a b h1 h2 h3 => hinv.2 a b h1 h2 (by omega)⟩) (by omega) hP hS (lv_sub hl [1, 0, 2, 3, 4] rfl)
      · skip
        intro i j  M1 H locs ls hi hj0 hinv hmu hP hS hl
        refine lv_iload hx hb dS_multiply_10 (lv_at hl 1 rfl) ?_
        refine lv_iconst (v := nI 4) hx hb dS_multiply_12 (by decide) ?_
        refine ln_icmp_ge (tgt := 38) hx hb dS_multiply_13 (by decide) (by omega) (by omega) (fun c_13 => ?_) (fun c_13 => ?_)
        · skip
          refine lv_iinc (v := nI (i + 1)) (lv' := [(3, .int (nI (i + 1))), (4, .int (nI j)), (0, .ref (ad ka)), (1, .ref (ad kb)), (2, .ref (ad kc))]) hx hb dS_multiply_38 hl (k := 0) rfl (nI_add i 1) (by decide) rfl (fun ls hl => ?_)
          refine lv_goto (tgt := 2) hx hb dS_multiply_41 (by decide) ?_
          exact ih.1 (i + 1)  M1 H locs ls (by omega) (⟨hinv.1, fun a b h1 h2 h3 => hinv.2 a b h1 h2 (by omega)⟩) (by omega) hP hS (lv_sub hl [0, 2, 3, 4] rfl)
        · skip
          have hj : j < 4 := c_13
          refine lv_aload_n hx hb dS_multiply_16 rfl (lv_at hl 4 rfl) ?_
          refine lv_iconst (v := nI 4) hx hb dS_multiply_17 (by decide) ?_
          refine lv_iload_n hx hb dS_multiply_18 rfl (lv_at hl 0 rfl) ?_
          refine ln_imul hx hb dS_multiply_19 ?_
          refine lv_iload hx hb dS_multiply_20 (lv_at hl 1 rfl) ?_
          refine ln_iadd hx hb dS_multiply_22 ?_
          refine lv_aload_n hx hb dS_multiply_23 rfl (lv_at hl 2 rfl) ?_
          refine lv_aload_n hx hb dS_multiply_24 rfl (lv_at hl 3 rfl) ?_
          refine lv_iload_n hx hb dS_multiply_25 rfl (lv_at hl 0 rfl) ?_
          refine lv_iload hx hb dS_multiply_26 (lv_at hl 1 rfl) ?_
          refine vp_callSi (va_Run.run (bc_runS (own := RS) (As := [.ref (ad ka), .ref (ad kb), .int (nI i), .int (nI j)]) (rest := [.int (nI ((4 * i) + j)), .ref (ad kc)]) hx hb (hml.trans hl.1.symm) hown hts (kS_productAt l D cs ad hI M1 H.size ka kb hka hkb fa fb i j hi hj) w_73 w_71 w_72 w_1 hd_S_productAt rfl ⟨rfl, rfl⟩ ⟨Nat.le_of_ble_eq_true rfl, Nat.le_of_ble_eq_true rfl⟩ (fun _ _ _ _ h => h.calling) (fun U hU hW => ⟨by rw [hU], by rw [hU]; exact hP, hE.warm hW⟩) rfl (Nat.le_of_ble_eq_true rfl) dS_multiply_28 ⟨Nat.le_of_ble_eq_true rfl, Nat.le_of_ble_eq_true rfl⟩)) (fun r_28 hr_28 => ?_)
          rw [hinv.1 ka ha, hinv.1 kb hb0] at hr_28
          refine ln_iast (L := 12) hx hb hE hI hP hS kc 0 (hkc) (fc _) rfl (by omega) (by decide) (upd (M1 kc) ((4 * i) + j) r_28) (fc _) dS_multiply_31 (fun M_1 H locs eM_1 hP hS => ?_)
          refine lv_iinc (v := nI (j + 1)) (lv' := [(4, .int (nI (j + 1))), (3, .int (nI i)), (0, .ref (ad ka)), (1, .ref (ad kb)), (2, .ref (ad kc))]) hx hb dS_multiply_32 hl (k := 1) rfl (nI_add j 1) (by decide) rfl (fun ls hl => ?_)
          refine lv_goto (tgt := 10) hx hb dS_multiply_35 (by decide) ?_
          exact ih.2 i (j + 1)  M_1 H locs ls (by omega) (by omega) (mul_step hinv eM_1 hr_28 (by omega) hj) (by omega) hP hS (lv_sub hl [1, 0, 2, 3, 4] rfl)
  refine lv_iconst (v := nI 0) hx hb dS_multiply_0 (by decide) ?_
  refine lv_istore_n (lv' := [(3, .int (nI 0)), (0, .ref (ad ka)), (1, .ref (ad kb)), (2, .ref (ad kc))]) hx hb dS_multiply_1 rfl hl (by decide) rfl (fun ls hl => ?_)
  exact (loop 100000).1 0  M s.heap [] ls (by omega) (⟨fun _ _ => rfl, fun a b _ _ h => by omega⟩) (by omega) hP hS (lv_sub hl [0, 1, 2, 3] rfl)
end
section
/-! TURNS, LOCALS, THE VIEW (the class) -/
theorem nst_55 : Cond.methodLinkNest RS 55 yT_init RS ∈ nestW := List.mem_of_getElem? (i := 0) rfl
theorem nst_118 : Cond.methodLinkNest RS 118 yT_turnOf RS ∈ nestW := List.mem_of_getElem? (i := 1) rfl
theorem nst_35 : Cond.methodLinkNest RT 35 yS_sine RS ∈ nestW := List.mem_of_getElem? (i := 2) rfl
theorem nst_31 : Cond.methodLinkNest RT 31 yS_multiply RS ∈ nestW := List.mem_of_getElem? (i := 3) rfl
abbrev sc9 (cs : Nat → ClassId) (ad : Nat → Nat) (k : Nat) : Prop := ∀ r : Nat → Int32, sc_cell cs ad k r = .inl (cs 0, 9, .inl r)
def jput (r : Nat → Int32) (q : Nat) (x y z : Int32) : Nat → Int32 := upd (upd (upd r (3 * q) x) (3 * q + 1) y) (3 * q + 2) z
/-- the matrix of a turn by a, about the axis that is neither p nor q, laid over r -/
def jspin (r : Nat → Int32) (p q : Nat) (a : Int32) : Nat → Int32 := upd (upd (upd (upd (upd r (4 * (3 - p - q) + (3 - p - q)) 65536) (4 * p + p) (jsin (a + nI 1024))) (4 * p + q) (-(jsin a))) (4 * q + p) (jsin a)) (4 * q + q) (jsin (a + nI 1024))
def jmat (a b : Nat → Int32) : Nat → Int32 := fun t => jprod a b (t / 4) (t % 4)
def jturn (a b c : Int32) : Nat → Int32 := jmat (jmat (jspin (fun _ => 0) 2 0 b) (jspin (fun _ => 0) 1 2 a)) (jspin (fun _ => 0) 0 1 c)
/-- the turner's matrices are 0 where no turn writes -/
def sTZ (M : Nat → Nat → Int32) : Prop := (∀ t, (t = 1 ∨ t = 2 ∨ t = 3 ∨ t = 4 ∨ t = 7 ∨ t = 8 ∨ t = 11) → M 157 t = 0) ∧ (∀ t, (t = 1 ∨ t = 3 ∨ t = 4 ∨ t = 6 ∨ t = 7 ∨ t = 9 ∨ t = 11) → M 158 t = 0) ∧ (∀ t, (t = 2 ∨ t = 3 ∨ t = 6 ∨ t = 7 ∨ t = 8 ∨ t = 9 ∨ t = 11) → M 159 t = 0)
theorem jprod_congr {a a' b b' : Nat → Int32} (ha : ∀ t, t < 12 → a t = a' t) (hb : ∀ t, t < 12 → b t = b' t) {i j : Nat} (hi : i < 3) (hj : j < 4) : jprod a b i j = jprod a' b' i j := by
  unfold jprod jsum
  rw [ha (4 * i) (by omega), ha (4 * i + 1) (by omega), ha (4 * i + 2) (by omega), ha (4 * i + 3) (by omega), hb j (by omega), hb (4 + j) (by omega), hb (8 + j) (by omega)]
theorem jspin_x {r : Nat → Int32} (h : ∀ t, (t = 1 ∨ t = 2 ∨ t = 3 ∨ t = 4 ∨ t = 7 ∨ t = 8 ∨ t = 11) → r t = 0) (a : Int32) : (∀ t, t < 12 → jspin r 1 2 a t = jspin (fun _ => 0) 1 2 a t) ∧ ∀ t, (t = 1 ∨ t = 2 ∨ t = 3 ∨ t = 4 ∨ t = 7 ∨ t = 8 ∨ t = 11) → jspin r 1 2 a t = 0 := by
  have key : ∀ t, (t = 1 ∨ t = 2 ∨ t = 3 ∨ t = 4 ∨ t = 7 ∨ t = 8 ∨ t = 11) → jspin r 1 2 a t = r t := by
    intro t ht
    unfold jspin
    rw [pk_un (by omega), pk_un (by omega), pk_un (by omega), pk_un (by omega), pk_un (by omega)]
  refine ⟨fun t ht => ?_, fun t ht => by rw [key t ht, h t ht]⟩
  by_cases hz : t = 1 ∨ t = 2 ∨ t = 3 ∨ t = 4 ∨ t = 7 ∨ t = 8 ∨ t = 11
  · rw [key t hz, h t hz]
    unfold jspin
    rw [pk_un (by omega), pk_un (by omega), pk_un (by omega), pk_un (by omega), pk_un (by omega)]
  · rcases (show t = 0 ∨ t = 5 ∨ t = 6 ∨ t = 9 ∨ t = 10 by omega) with rfl | rfl | rfl | rfl | rfl <;> rfl
theorem jspin_y {r : Nat → Int32} (h : ∀ t, (t = 1 ∨ t = 3 ∨ t = 4 ∨ t = 6 ∨ t = 7 ∨ t = 9 ∨ t = 11) → r t = 0) (a : Int32) : (∀ t, t < 12 → jspin r 2 0 a t = jspin (fun _ => 0) 2 0 a t) ∧ ∀ t, (t = 1 ∨ t = 3 ∨ t = 4 ∨ t = 6 ∨ t = 7 ∨ t = 9 ∨ t = 11) → jspin r 2 0 a t = 0 := by
  have key : ∀ t, (t = 1 ∨ t = 3 ∨ t = 4 ∨ t = 6 ∨ t = 7 ∨ t = 9 ∨ t = 11) → jspin r 2 0 a t = r t := by
    intro t ht
    unfold jspin
    rw [pk_un (by omega), pk_un (by omega), pk_un (by omega), pk_un (by omega), pk_un (by omega)]
  refine ⟨fun t ht => ?_, fun t ht => by rw [key t ht, h t ht]⟩
  by_cases hz : t = 1 ∨ t = 3 ∨ t = 4 ∨ t = 6 ∨ t = 7 ∨ t = 9 ∨ t = 11
  · rw [key t hz, h t hz]
    unfold jspin
    rw [pk_un (by omega), pk_un (by omega), pk_un (by omega), pk_un (by omega), pk_un (by omega)]
  · rcases (show t = 0 ∨ t = 2 ∨ t = 5 ∨ t = 8 ∨ t = 10 by omega) with rfl | rfl | rfl | rfl | rfl <;> rfl
theorem jspin_z {r : Nat → Int32} (h : ∀ t, (t = 2 ∨ t = 3 ∨ t = 6 ∨ t = 7 ∨ t = 8 ∨ t = 9 ∨ t = 11) → r t = 0) (a : Int32) : (∀ t, t < 12 → jspin r 0 1 a t = jspin (fun _ => 0) 0 1 a t) ∧ ∀ t, (t = 2 ∨ t = 3 ∨ t = 6 ∨ t = 7 ∨ t = 8 ∨ t = 9 ∨ t = 11) → jspin r 0 1 a t = 0 := by
  have key : ∀ t, (t = 2 ∨ t = 3 ∨ t = 6 ∨ t = 7 ∨ t = 8 ∨ t = 9 ∨ t = 11) → jspin r 0 1 a t = r t := by
    intro t ht
    unfold jspin
    rw [pk_un (by omega), pk_un (by omega), pk_un (by omega), pk_un (by omega), pk_un (by omega)]
  refine ⟨fun t ht => ?_, fun t ht => by rw [key t ht, h t ht]⟩
  by_cases hz : t = 2 ∨ t = 3 ∨ t = 6 ∨ t = 7 ∨ t = 8 ∨ t = 9 ∨ t = 11
  · rw [key t hz, h t hz]
    unfold jspin
    rw [pk_un (by omega), pk_un (by omega), pk_un (by omega), pk_un (by omega), pk_un (by omega)]
  · rcases (show t = 0 ∨ t = 1 ∨ t = 4 ∨ t = 5 ∨ t = 10 by omega) with rfl | rfl | rfl | rfl | rfl <;> rfl
theorem turn_done {M M1 M2 M3 M4 M5 : Nat → Nat → Int32} {k : Nat} (hk : k < 157) (hz : sTZ M) (e1 : M1 = va_up M 157 (jspin (M 157) 1 2 (M k 3))) (e2 : M2 = va_up M1 158 (jspin (M1 158) 2 0 (M1 k 4))) (e3 : M3 = va_up M2 159 (jspin (M2 159) 0 1 (M2 k 5))) (h4 : (∀ q, q ≠ 160 → M4 q = M3 q) ∧ ∀ i j, i < 3 → j < 4 → M4 160 (4 * i + j) = jprod (M3 158) (M3 157) i j) (h5 : (∀ q, q ≠ 161 → M5 q = M4 q) ∧ ∀ i j, i < 3 → j < 4 → M5 161 (4 * i + j) = jprod (M4 160) (M4 159) i j) :
    (∀ q, q < 157 → M5 q = M q) ∧ sTZ M5 ∧ ∀ t, t < 12 → M5 161 t = jturn (M k 3) (M k 4) (M k 5) t := by
  have x1 : M1 k = M k := by rw [e1, va_up_ne _ _ (by omega)]
  have x2 : M2 k = M k := by rw [e2, va_up_ne _ _ (by omega), x1]
  have a1 : M3 157 = jspin (M 157) 1 2 (M k 3) := by rw [e3, va_up_ne _ _ (by omega), e2, va_up_ne _ _ (by omega), e1, va_up_self]
  have a2 : M3 158 = jspin (M 158) 2 0 (M k 4) := by rw [e3, va_up_ne _ _ (by omega), e2, va_up_self, x1, e1, va_up_ne _ _ (by omega)]
  have a3 : M3 159 = jspin (M 159) 0 1 (M k 5) := by rw [e3, va_up_self, x2, e2, va_up_ne _ _ (by omega), e1, va_up_ne _ _ (by omega)]
  obtain ⟨z1, z2, z3⟩ := hz
  obtain ⟨s1, s1'⟩ := jspin_x z1 (M k 3)
  obtain ⟨s2, s2'⟩ := jspin_y z2 (M k 4)
  obtain ⟨s3, s3'⟩ := jspin_z z3 (M k 5)
  refine ⟨fun q hq => ?_, ⟨fun t ht => ?_, fun t ht => ?_, fun t ht => ?_⟩, fun t ht => ?_⟩
  · rw [h5.1 q (by omega), h4.1 q (by omega), e3, va_up_ne _ _ (by omega), e2, va_up_ne _ _ (by omega), e1, va_up_ne _ _ (by omega)]
  · rw [h5.1 157 (by omega), h4.1 157 (by omega), a1]; exact s1' t ht
  · rw [h5.1 158 (by omega), h4.1 158 (by omega), a2]; exact s2' t ht
  · rw [h5.1 159 (by omega), h4.1 159 (by omega), a3]; exact s3' t ht
  · have ht2 : t = 4 * (t / 4) + t % 4 := by omega
    rw [ht2, h5.2 (t / 4) (t % 4) (by omega) (by omega), ← ht2]
    refine jprod_congr (fun u hu => ?_) (fun u hu => ?_) (by omega) (by omega)
    · have hu2 : u = 4 * (u / 4) + u % 4 := by omega
      rw [hu2, h4.2 (u / 4) (u % 4) (by omega) (by omega), ← hu2, a1, a2]
      exact jprod_congr s2 s1 (by omega) (by omega)
    · rw [h4.1 159 (by omega), a3]; exact s3 u hu
/-- a matrix at place k filled up to t, all else as it was -/
def mfill (M0 M1 : Nat → Nat → Int32) (k t : Nat) (F : Nat → Nat → Int32) : Prop := (∀ q, q ≠ k → M1 q = M0 q) ∧ ∀ a b, a < 3 → b < 4 → 4 * a + b < t → M1 k (4 * a + b) = F a b
theorem mfill.zero {M : Nat → Nat → Int32} {k : Nat} {F : Nat → Nat → Int32} : mfill M M k 0 F := ⟨fun _ _ => rfl, fun a b _ _ h => by omega⟩
theorem mfill.le {M0 M1 : Nat → Nat → Int32} {k t t' : Nat} {F : Nat → Nat → Int32} (h : mfill M0 M1 k t F) (ht : t' ≤ t) : mfill M0 M1 k t' F := ⟨h.1, fun a b h1 h2 h3 => h.2 a b h1 h2 (by omega)⟩
theorem mfill.step {M0 M1 M2 : Nat → Nat → Int32} {k i j : Nat} {r : Int32} {F : Nat → Nat → Int32} (h : mfill M0 M1 k (4 * i + j) F) (e : M2 = va_up M1 k (upd (M1 k) (4 * i + j) r)) (hr : r = F i j) (hj : j < 4) : mfill M0 M2 k (4 * i + (j + 1)) F := by
  subst e
  refine ⟨fun q hq => by rw [va_up_ne _ _ hq]; exact h.1 q hq, fun a b h1 h2 h3 => ?_⟩
  rw [va_up_self]
  by_cases hq : 4 * a + b = 4 * i + j
  · have h4 : a = i ∧ b = j := by omega
    obtain ⟨rfl, rfl⟩ := h4
    rw [pk_us, hr]
  · rw [pk_un hq]
    exact h.2 a b h1 h2 (by omega)
theorem mfill.done {M0 M1 : Nat → Nat → Int32} {k : Nat} {F : Nat → Nat → Int32} (h : mfill M0 M1 k 12 F) {t : Nat} (ht : t < 12) : M1 k t = F (t / 4) (t % 4) := by
  have ht2 : t = 4 * (t / 4) + t % 4 := by omega
  have := h.2 (t / 4) (t % 4) (by omega) (by omega) (by omega)
  rw [← ht2] at this
  exact this
/-- LOCAL, out of a node's nine numbers -/
def jlc (T u : Nat → Int32) (i j : Nat) : Int32 := if j = 3 then u (0 + i) else (jcl (jmul (T (4 * i + j)).toInt64 (u (6 + j)).toInt64)).toInt32
def jlocal (u : Nat → Int32) : Nat → Int32 := fun t => jlc (jturn (u 3) (u 4) (u 5)) u (t / 4) (t % 4)
/-- VIEW, out of the camera's numbers -/
def jal (T u : Nat → Int32) (i : Nat) : Nat → Int64
  | 0 => 0
  | j + 1 => jal T u i j + jmul (T (4 * j + i)).toInt64 (u (0 + j)).toInt64
def jvc (T u : Nat → Int32) (i j : Nat) : Int32 := if j = 3 then (jcl (-(jal T u i 3))).toInt32 else T (4 * j + i)
def jview (u : Nat → Int32) : Nat → Int32 := fun t => jvc (jturn (u 3) (u 4) (u 5)) u (t / 4) (t % 4)
theorem jal_congr {T T' u u' : Nat → Int32} (hT : ∀ t, t < 12 → T t = T' t) (hu : ∀ t, t < 9 → u t = u' t) {i : Nat} (hi : i < 3) : ∀ j, j ≤ 3 → jal T u i j = jal T' u' i j
  | 0, _ => rfl
  | j + 1, h => by rw [jal, jal, jal_congr hT hu hi j (by omega), hT (4 * j + i) (by omega), hu (0 + j) (by omega)]
theorem jlc_congr {T T' u u' : Nat → Int32} (hT : ∀ t, t < 12 → T t = T' t) (hu : ∀ t, t < 9 → u t = u' t) {i j : Nat} (hi : i < 3) (hj : j < 4) : jlc T u i j = jlc T' u' i j := by
  unfold jlc
  by_cases h : j = 3
  · rw [if_pos h, if_pos h, hu (0 + i) (by omega)]
  · rw [if_neg h, if_neg h, hT (4 * i + j) (by omega), hu (6 + j) (by omega)]
theorem jvc_congr {T T' u u' : Nat → Int32} (hT : ∀ t, t < 12 → T t = T' t) (hu : ∀ t, t < 9 → u t = u' t) {i j : Nat} (hi : i < 3) (hj : j < 4) : jvc T u i j = jvc T' u' i j := by
  unfold jvc
  by_cases h : j = 3
  · rw [if_pos h, if_pos h, jal_congr hT hu hi 3 (by omega)]
  · rw [if_neg h, if_neg h, hT (4 * j + i) (by omega)]

set_option maxHeartbeats 4000000 in
set_option maxRecDepth 100000 in
/-- three numbers of a row -/
theorem kS_put (l : Launch) (D : va_G) (cs : Nat → ClassId) (ad : Nat → Nat) (hI : bw_I ad 162) (M : Nat → Nat → Int32) (sz : Nat) (k q : Nat) (hk : k < 162) (fk : sc9 cs ad k) (hq : q < 3) (x y z : Int32)  : Met l yS_put (wc yS_put cS_put 5 none) ({ frames := 0, cells := 0, slots := 0, locals := 0 } : Room) (va_Pc [.ref (ad k), .int (nI q), .int x, .int y, .int z] (sP D cs ad M sz)) (bQv D ad 162 (sc_cell cs ad) sz (fun M1 => M1 = va_up M k (jput (M k) q x y z))) 0 0 (bw_A ad 162 sz) := by
  refine Met.ofW (cc := cS_put) (maxL := 5) (ret := none) (by decide +kernel) rfl ?_
  intro p e s m args below meth c s₁ B hml hv
  obtain ⟨rfl, hsz, hP, hE⟩ := hv
  subst hsz
  have hx := B.exec
  have hb := B.bytes
  have hr := B.returns
  have hts : ∀ w9 ∈ ws_all, w9.before ([.ref (ad k), .int (nI q), .int x, .int y, .int z] : List Value).toArray s = true := fun w9 h => atoms_spec (ws := (wc yS_put cS_put 5 none)) B.pre w9 (List.mem_cons_of_mem _ h)
  have hown : s.vm.findClass RS = some m.cls := findClass_of_methodNamed B.named
  have hlocks := B.notSynchronized
  have hS : va_S (bw_A ad 162 s.heap.size) s.heap s.heap [] := va_S.rf
  have hl := lv_entry ([.ref (ad k), .int (nI q), .int x, .int y, .int z]) (n := 5) (Nat.le_of_ble_eq_true rfl)
  rw [lg_entry_eq]
  generalize (lg_sl ([.ref (ad k), .int (nI q), .int x, .int y, .int z]) ++ List.replicate (5 - (lg_sl ([.ref (ad k), .int (nI q), .int x, .int y, .int z])).length) Slot.unset).toArray = ls at hl ⊢
  have hl : lv_has ls 5 [(0, .ref (ad k)), (1, .int (nI q)), (2, .int x), (3, .int y), (4, .int z)] := hl
  refine lv_aload_n hx hb dS_put_0 rfl (lv_at hl 0 rfl) ?_
  refine lv_iconst (v := nI 3) hx hb dS_put_1 (by decide) ?_
  refine lv_iload_n hx hb dS_put_2 rfl (lv_at hl 1 rfl) ?_
  refine ln_imul hx hb dS_put_3 ?_
  refine lv_iload_n hx hb dS_put_4 rfl (lv_at hl 2 rfl) ?_
  refine ln_iast (L := 9) hx hb hE hI hP hS k 0 (hk) (fk _) rfl (by omega) (by decide) (upd (M k) (3 * q) x) (fk _) dS_put_5 (fun M_1 H locs eM_1 hP hS => ?_)
  refine lv_aload_n hx hb dS_put_6 rfl (lv_at hl 0 rfl) ?_
  refine lv_iconst (v := nI 3) hx hb dS_put_7 (by decide) ?_
  refine lv_iload_n hx hb dS_put_8 rfl (lv_at hl 1 rfl) ?_
  refine ln_imul hx hb dS_put_9 ?_
  refine lv_iconst (v := nI 1) hx hb dS_put_10 (by decide) ?_
  refine ln_iadd hx hb dS_put_11 ?_
  refine lv_iload_n hx hb dS_put_12 rfl (lv_at hl 3 rfl) ?_
  refine ln_iast (L := 9) hx hb hE hI hP hS k 0 (hk) (fk _) rfl (by omega) (by decide) (upd (M_1 k) ((3 * q) + 1) y) (fk _) dS_put_13 (fun M_2 H locs eM_2 hP hS => ?_)
  refine lv_aload_n hx hb dS_put_14 rfl (lv_at hl 0 rfl) ?_
  refine lv_iconst (v := nI 3) hx hb dS_put_15 (by decide) ?_
  refine lv_iload_n hx hb dS_put_16 rfl (lv_at hl 1 rfl) ?_
  refine ln_imul hx hb dS_put_17 ?_
  refine lv_iconst (v := nI 2) hx hb dS_put_18 (by decide) ?_
  refine ln_iadd hx hb dS_put_19 ?_
  refine lv_iload hx hb dS_put_20 (lv_at hl 4 rfl) ?_
  refine ln_iast (L := 9) hx hb hE hI hP hS k 0 (hk) (fk _) rfl (by omega) (by decide) (upd (M_2 k) ((3 * q) + 2) z) (fk _) dS_put_22 (fun M_3 H locs eM_3 hP hS => ?_)
  exact W.vret hx hb hr (fun t ht hW => ⟨⟨M_3, rfl, by rw [eM_3, eM_2, eM_1]; unfold jput; simp only [va_up_self, bx_uu], by show va_P _ _ _ t.heap; rw [ht]; exact hP⟩, hS.F ht⟩) hS.2.2 dS_put_23

set_option maxHeartbeats 4000000 in
set_option maxRecDepth 100000 in
/-- the matrix of a turn -/
theorem kT_spin (l : Launch) (D : va_G) (cs : Nat → ClassId) (ad : Nat → Nat) (hI : bw_I ad 162) (M : Nat → Nat → Int32) (sz : Nat) (k i j : Nat) (hk : k < 162) (fk : sc12 cs ad k) (hi : i < 3) (hj : j < 3) (hij : i ≠ j) (a : Int32)  : Met l yT_spin (wc yT_spin cT_spin 7 none) ({ frames := 2, cells := 0, slots := 0, locals := 53 } : Room) (va_Pc [.ref (ad k), .int (nI i), .int (nI j), .int a] (sP D cs ad M sz)) (bQv D ad 162 (sc_cell cs ad) sz (fun M1 => M1 = va_up M k (jspin (M k) i j a))) 0 0 (bw_A ad 162 sz) := by
  refine Met.ofW (cc := cT_spin) (maxL := 7) (ret := none) (by decide +kernel) rfl ?_
  intro p e s m args below meth c s₁ B hml hv
  obtain ⟨rfl, hsz, hP, hE⟩ := hv
  subst hsz
  have hx := B.exec
  have hb := B.bytes
  have hr := B.returns
  have hts : ∀ w9 ∈ ws_all, w9.before ([.ref (ad k), .int (nI i), .int (nI j), .int a] : List Value).toArray s = true := fun w9 h => atoms_spec (ws := (wc yT_spin cT_spin 7 none)) B.pre w9 (List.mem_cons_of_mem _ h)
  have hown : s.vm.findClass RT = some m.cls := findClass_of_methodNamed B.named
  have hlocks := B.notSynchronized
  have hS : va_S (bw_A ad 162 s.heap.size) s.heap s.heap [] := va_S.rf
  have hl := lv_entry ([.ref (ad k), .int (nI i), .int (nI j), .int a]) (n := 7) (Nat.le_of_ble_eq_true rfl)
  rw [lg_entry_eq]
  generalize (lg_sl ([.ref (ad k), .int (nI i), .int (nI j), .int a]) ++ List.replicate (7 - (lg_sl ([.ref (ad k), .int (nI i), .int (nI j), .int a])).length) Slot.unset).toArray = ls at hl ⊢
  have hl : lv_has ls 7 [(0, .ref (ad k)), (1, .int (nI i)), (2, .int (nI j)), (3, .int a)] := hl
  refine lv_iconst (v := nI 3) hx hb dT_spin_0 (by decide) ?_
  refine lv_iload_n hx hb dT_spin_1 rfl (lv_at hl 1 rfl) ?_
  refine ln_isub hx hb dT_spin_2 (by omega) ?_
  refine lv_iload_n hx hb dT_spin_3 rfl (lv_at hl 2 rfl) ?_
  refine ln_isub hx hb dT_spin_4 (by omega) ?_
  refine lv_istore (lv' := [(4, .int (nI ((3 - i) - j))), (0, .ref (ad k)), (1, .int (nI i)), (2, .int (nI j)), (3, .int a)]) hx hb dT_spin_5 hl (by decide) rfl (fun ls hl => ?_)
  refine lv_iload_n hx hb dT_spin_7 rfl (lv_at hl 4 rfl) ?_
  refine vp_callSi (va_Run.run (bc_runSN (own := RT) (host := RS) (As := [.int a]) (rest := []) hx hb (hml.trans hl.1.symm) hown hts (kS_sine l a) w_57 (hE.2 _ nst_35) w_56 w_1 hd_S_sine rfl ⟨rfl, rfl⟩ ⟨Nat.le_of_ble_eq_true rfl, Nat.le_of_ble_eq_true rfl⟩ (fun _ _ _ _ _ => trivial) (fun _ _ _ => trivial) rfl (Nat.le_of_ble_eq_true rfl) dT_spin_8 ⟨Nat.le_of_ble_eq_true rfl, Nat.le_of_ble_eq_true rfl⟩)) (fun r_8 hr_8 => ?_)
  refine ln_asi (jsin a) (by exact hr_8) ?_
  refine lv_istore (lv' := [(5, .int (jsin a)), (4, .int (nI ((3 - i) - j))), (0, .ref (ad k)), (1, .int (nI i)), (2, .int (nI j)), (3, .int a)]) hx hb dT_spin_11 hl (by decide) rfl (fun ls hl => ?_)
  refine lv_iload_n hx hb dT_spin_13 rfl (lv_at hl 5 rfl) ?_
  refine lv_sipush (v := nI 1024) hx hb dT_spin_14 (by decide) ?_
  refine lv_iadd hx hb dT_spin_17 ?_
  refine vp_callSi (va_Run.run (bc_runSN (own := RT) (host := RS) (As := [.int (a + (nI 1024))]) (rest := []) hx hb (hml.trans hl.1.symm) hown hts (kS_sine l (a + nI 1024)) w_57 (hE.2 _ nst_35) w_56 w_1 hd_S_sine rfl ⟨rfl, rfl⟩ ⟨Nat.le_of_ble_eq_true rfl, Nat.le_of_ble_eq_true rfl⟩ (fun _ _ _ _ _ => trivial) (fun _ _ _ => trivial) rfl (Nat.le_of_ble_eq_true rfl) dT_spin_18 ⟨Nat.le_of_ble_eq_true rfl, Nat.le_of_ble_eq_true rfl⟩)) (fun r_18 hr_18 => ?_)
  refine ln_asi (jsin (a + nI 1024)) (by exact hr_18) ?_
  refine lv_istore (lv' := [(6, .int (jsin (a + nI 1024))), (5, .int (jsin a)), (4, .int (nI ((3 - i) - j))), (0, .ref (ad k)), (1, .int (nI i)), (2, .int (nI j)), (3, .int a)]) hx hb dT_spin_21 hl (by decide) rfl (fun ls hl => ?_)
  refine lv_aload_n hx hb dT_spin_23 rfl (lv_at hl 3 rfl) ?_
  refine lv_iconst (v := nI 4) hx hb dT_spin_24 (by decide) ?_
  refine lv_iload hx hb dT_spin_25 (lv_at hl 2 rfl) ?_
  refine ln_imul hx hb dT_spin_27 ?_
  refine lv_iload hx hb dT_spin_28 (lv_at hl 2 rfl) ?_
  refine ln_iadd hx hb dT_spin_30 ?_
  refine lv_ldc (own := RT) (index := 39) (v := 65536) hx hb hown (hts _ w_67) dT_spin_31 ?_
  refine ln_iast (L := 12) hx hb hE hI hP hS k 0 (hk) (fk _) rfl (by omega) (by decide) (upd (M k) ((4 * ((3 - i) - j)) + ((3 - i) - j)) 65536) (fk _) dT_spin_33 (fun M_1 H locs eM_1 hP hS => ?_)
  refine lv_aload_n hx hb dT_spin_34 rfl (lv_at hl 3 rfl) ?_
  refine lv_iconst (v := nI 4) hx hb dT_spin_35 (by decide) ?_
  refine lv_iload_n hx hb dT_spin_36 rfl (lv_at hl 4 rfl) ?_
  refine ln_imul hx hb dT_spin_37 ?_
  refine lv_iload_n hx hb dT_spin_38 rfl (lv_at hl 4 rfl) ?_
  refine ln_iadd hx hb dT_spin_39 ?_
  refine lv_iload hx hb dT_spin_40 (lv_at hl 0 rfl) ?_
  refine ln_iast (L := 12) hx hb hE hI hP hS k 0 (hk) (fk _) rfl (by omega) (by decide) (upd (M_1 k) ((4 * i) + i) (jsin (a + nI 1024))) (fk _) dT_spin_42 (fun M_2 H locs eM_2 hP hS => ?_)
  refine lv_aload_n hx hb dT_spin_43 rfl (lv_at hl 3 rfl) ?_
  refine lv_iconst (v := nI 4) hx hb dT_spin_44 (by decide) ?_
  refine lv_iload_n hx hb dT_spin_45 rfl (lv_at hl 4 rfl) ?_
  refine ln_imul hx hb dT_spin_46 ?_
  refine lv_iload_n hx hb dT_spin_47 rfl (lv_at hl 5 rfl) ?_
  refine ln_iadd hx hb dT_spin_48 ?_
  refine lv_iload hx hb dT_spin_49 (lv_at hl 1 rfl) ?_
  refine lv_ineg hx hb dT_spin_51 ?_
  refine ln_iast (L := 12) hx hb hE hI hP hS k 0 (hk) (fk _) rfl (by omega) (by decide) (upd (M_2 k) ((4 * i) + j) (-(jsin a))) (fk _) dT_spin_52 (fun M_3 H locs eM_3 hP hS => ?_)
  refine lv_aload_n hx hb dT_spin_53 rfl (lv_at hl 3 rfl) ?_
  refine lv_iconst (v := nI 4) hx hb dT_spin_54 (by decide) ?_
  refine lv_iload_n hx hb dT_spin_55 rfl (lv_at hl 5 rfl) ?_
  refine ln_imul hx hb dT_spin_56 ?_
  refine lv_iload_n hx hb dT_spin_57 rfl (lv_at hl 4 rfl) ?_
  refine ln_iadd hx hb dT_spin_58 ?_
  refine lv_iload hx hb dT_spin_59 (lv_at hl 1 rfl) ?_
  refine ln_iast (L := 12) hx hb hE hI hP hS k 0 (hk) (fk _) rfl (by omega) (by decide) (upd (M_3 k) ((4 * j) + i) (jsin a)) (fk _) dT_spin_61 (fun M_4 H locs eM_4 hP hS => ?_)
  refine lv_aload_n hx hb dT_spin_62 rfl (lv_at hl 3 rfl) ?_
  refine lv_iconst (v := nI 4) hx hb dT_spin_63 (by decide) ?_
  refine lv_iload_n hx hb dT_spin_64 rfl (lv_at hl 5 rfl) ?_
  refine ln_imul hx hb dT_spin_65 ?_
  refine lv_iload_n hx hb dT_spin_66 rfl (lv_at hl 5 rfl) ?_
  refine ln_iadd hx hb dT_spin_67 ?_
  refine lv_iload hx hb dT_spin_68 (lv_at hl 0 rfl) ?_
  refine ln_iast (L := 12) hx hb hE hI hP hS k 0 (hk) (fk _) rfl (by omega) (by decide) (upd (M_4 k) ((4 * j) + j) (jsin (a + nI 1024))) (fk _) dT_spin_70 (fun M_5 H locs eM_5 hP hS => ?_)
  exact W.vret hx hb hr (fun t ht hW => ⟨⟨M_5, rfl, by rw [eM_5, eM_4, eM_3, eM_2, eM_1]; unfold jspin; simp only [va_up_self, bx_uu], by show va_P _ _ _ t.heap; rw [ht]; exact hP⟩, hS.F ht⟩) hS.2.2 dT_spin_71

set_option maxHeartbeats 4000000 in
set_option maxRecDepth 100000 in
/-- TURN of the document, into the matrix whole -/
theorem kT_turnOf (l : Launch) (D : va_G) (cs : Nat → ClassId) (ad : Nat → Nat) (hI : bw_I ad 162) (M : Nat → Nat → Int32) (sz : Nat) (k : Nat) (hk : k < 157) (fk : sc9 cs ad k) (hz : sTZ M)  : Met l yT_turnOf (wc yT_turnOf cT_turnOf 2 (some (.array .int))) ({ frames := 4, cells := 0, slots := 0, locals := 88 } : Room) (va_Pc [.ref (ad 156), .ref (ad k)] (sP D cs ad M sz)) (bQr D ad 162 (sc_cell cs ad) sz (ad 161) (fun M1 => (∀ q, q < 157 → M1 q = M q) ∧ sTZ M1 ∧ ∀ t, t < 12 → M1 161 t = jturn (M k 3) (M k 4) (M k 5) t)) 0 0 (bw_A ad 162 sz) := by
  refine Met.ofW (cc := cT_turnOf) (maxL := 2) (ret := (some (.array .int))) (by decide +kernel) rfl ?_
  intro p e s m args below meth c s₁ B hml hv
  obtain ⟨rfl, hsz, hP, hE⟩ := hv
  subst hsz
  have hx := B.exec
  have hb := B.bytes
  have hr := B.returns
  have hts : ∀ w9 ∈ ws_all, w9.before ([.ref (ad 156), .ref (ad k)] : List Value).toArray s = true := fun w9 h => atoms_spec (ws := (wc yT_turnOf cT_turnOf 2 (some (.array .int)))) B.pre w9 (List.mem_cons_of_mem _ h)
  have hown : s.vm.findClass RT = some m.cls := findClass_of_methodNamed B.named
  have hlocks := B.notSynchronized
  have hS : va_S (bw_A ad 162 s.heap.size) s.heap s.heap [] := va_S.rf
  have hl := lv_entry ([.ref (ad 156), .ref (ad k)]) (n := 2) (Nat.le_of_ble_eq_true rfl)
  rw [lg_entry_eq]
  generalize (lg_sl ([.ref (ad 156), .ref (ad k)]) ++ List.replicate (2 - (lg_sl ([.ref (ad 156), .ref (ad k)])).length) Slot.unset).toArray = ls at hl ⊢
  have hl : lv_has ls 2 [(0, .ref (ad 156)), (1, .ref (ad k))] := hl
  refine lv_aload_n hx hb dT_turnOf_0 rfl (lv_at hl 0 rfl) ?_
  refine bw_get (own := RT) (ci := 0) (C := RT) (T := TT) (N := 5) (v := .ref (ad 157)) hx hb hts inT hown hE hP 156 (by decide) rfl rfl 0 (by decide) w_26 rfl rfl dT_turnOf_1 ?_
  refine lv_iconst (v := nI 1) hx hb dT_turnOf_4 (by decide) ?_
  refine lv_iconst (v := nI 2) hx hb dT_turnOf_5 (by decide) ?_
  refine lv_aload_n hx hb dT_turnOf_6 rfl (lv_at hl 1 rfl) ?_
  refine lv_iconst (v := nI 3) hx hb dT_turnOf_7 (by decide) ?_
  refine ln_iald (L := 9) (g := (M k)) hx hb hE hP k 0 (by omega) (fk _) rfl (by omega) (by decide) dT_turnOf_8 ?_
  refine bc_callv (bc_runS (own := RT) (As := [.ref (ad 157), .int (nI 1), .int (nI 2), .int (M k 3)]) (rest := []) hx hb (hml.trans hl.1.symm) hown hts (kT_spin l D cs ad hI M s.heap.size 157 1 2 (by decide) (fun _ => rfl) (by decide) (by decide) (by decide) (M k 3)) w_54 w_52 w_53 w_2 hd_T_spin rfl ⟨rfl, rfl⟩ ⟨Nat.le_of_ble_eq_true rfl, Nat.le_of_ble_eq_true rfl⟩ (fun _ _ _ _ h => h.calling) (fun U hU hW => ⟨by rw [hU], by rw [hU]; exact hP, hE.warm hW⟩) rfl (Nat.le_of_ble_eq_true rfl) dT_turnOf_9 ⟨Nat.le_of_ble_eq_true rfl, Nat.le_of_ble_eq_true rfl⟩) hS (fun M_1 H locs hr_9 hP hS => ?_)
  refine lv_aload_n hx hb dT_turnOf_12 rfl (lv_at hl 0 rfl) ?_
  refine bw_get (own := RT) (ci := 0) (C := RT) (T := TT) (N := 5) (v := .ref (ad 158)) hx hb hts inT hown hE hP 156 (by decide) rfl rfl 1 (by decide) w_27 rfl rfl dT_turnOf_13 ?_
  refine lv_iconst (v := nI 2) hx hb dT_turnOf_16 (by decide) ?_
  refine lv_iconst (v := nI 0) hx hb dT_turnOf_17 (by decide) ?_
  refine lv_aload_n hx hb dT_turnOf_18 rfl (lv_at hl 1 rfl) ?_
  refine lv_iconst (v := nI 4) hx hb dT_turnOf_19 (by decide) ?_
  refine ln_iald (L := 9) (g := (M_1 k)) hx hb hE hP k 0 (by omega) (fk _) rfl (by omega) (by decide) dT_turnOf_20 ?_
  refine bc_callv (bc_runS (own := RT) (As := [.ref (ad 158), .int (nI 2), .int (nI 0), .int (M_1 k 4)]) (rest := []) hx hb (hml.trans hl.1.symm) hown hts (kT_spin l D cs ad hI M_1 H.size 158 2 0 (by decide) (fun _ => rfl) (by decide) (by decide) (by decide) (M_1 k 4)) w_54 w_52 w_53 w_2 hd_T_spin rfl ⟨rfl, rfl⟩ ⟨Nat.le_of_ble_eq_true rfl, Nat.le_of_ble_eq_true rfl⟩ (fun _ _ _ _ h => h.calling) (fun U hU hW => ⟨by rw [hU], by rw [hU]; exact hP, hE.warm hW⟩) rfl (Nat.le_of_ble_eq_true rfl) dT_turnOf_21 ⟨Nat.le_of_ble_eq_true rfl, Nat.le_of_ble_eq_true rfl⟩) hS (fun M_2 H locs hr_21 hP hS => ?_)
  refine lv_aload_n hx hb dT_turnOf_24 rfl (lv_at hl 0 rfl) ?_
  refine bw_get (own := RT) (ci := 0) (C := RT) (T := TT) (N := 5) (v := .ref (ad 159)) hx hb hts inT hown hE hP 156 (by decide) rfl rfl 2 (by decide) w_28 rfl rfl dT_turnOf_25 ?_
  refine lv_iconst (v := nI 0) hx hb dT_turnOf_28 (by decide) ?_
  refine lv_iconst (v := nI 1) hx hb dT_turnOf_29 (by decide) ?_
  refine lv_aload_n hx hb dT_turnOf_30 rfl (lv_at hl 1 rfl) ?_
  refine lv_iconst (v := nI 5) hx hb dT_turnOf_31 (by decide) ?_
  refine ln_iald (L := 9) (g := (M_2 k)) hx hb hE hP k 0 (by omega) (fk _) rfl (by omega) (by decide) dT_turnOf_32 ?_
  refine bc_callv (bc_runS (own := RT) (As := [.ref (ad 159), .int (nI 0), .int (nI 1), .int (M_2 k 5)]) (rest := []) hx hb (hml.trans hl.1.symm) hown hts (kT_spin l D cs ad hI M_2 H.size 159 0 1 (by decide) (fun _ => rfl) (by decide) (by decide) (by decide) (M_2 k 5)) w_54 w_52 w_53 w_2 hd_T_spin rfl ⟨rfl, rfl⟩ ⟨Nat.le_of_ble_eq_true rfl, Nat.le_of_ble_eq_true rfl⟩ (fun _ _ _ _ h => h.calling) (fun U hU hW => ⟨by rw [hU], by rw [hU]; exact hP, hE.warm hW⟩) rfl (Nat.le_of_ble_eq_true rfl) dT_turnOf_33 ⟨Nat.le_of_ble_eq_true rfl, Nat.le_of_ble_eq_true rfl⟩) hS (fun M_3 H locs hr_33 hP hS => ?_)
  refine lv_aload_n hx hb dT_turnOf_36 rfl (lv_at hl 0 rfl) ?_
  refine bw_get (own := RT) (ci := 0) (C := RT) (T := TT) (N := 5) (v := .ref (ad 158)) hx hb hts inT hown hE hP 156 (by decide) rfl rfl 1 (by decide) w_27 rfl rfl dT_turnOf_37 ?_
  refine lv_aload_n hx hb dT_turnOf_40 rfl (lv_at hl 0 rfl) ?_
  refine bw_get (own := RT) (ci := 0) (C := RT) (T := TT) (N := 5) (v := .ref (ad 157)) hx hb hts inT hown hE hP 156 (by decide) rfl rfl 0 (by decide) w_26 rfl rfl dT_turnOf_41 ?_
  refine lv_aload_n hx hb dT_turnOf_44 rfl (lv_at hl 0 rfl) ?_
  refine bw_get (own := RT) (ci := 0) (C := RT) (T := TT) (N := 5) (v := .ref (ad 160)) hx hb hts inT hown hE hP 156 (by decide) rfl rfl 3 (by decide) w_29 rfl rfl dT_turnOf_45 ?_
  refine bc_callv (bc_runSN (own := RT) (host := RS) (As := [.ref (ad 158), .ref (ad 157), .ref (ad 160)]) (rest := []) hx hb (hml.trans hl.1.symm) hown hts (kS_multiply l D cs ad hI M_3 H.size 158 157 160 (by decide) (by decide) (by decide) (fun _ => rfl) (fun _ => rfl) (fun _ => rfl) (by decide) (by decide)) w_70 (hE.2 _ nst_31) w_69 w_1 hd_S_multiply rfl ⟨rfl, rfl⟩ ⟨Nat.le_of_ble_eq_true rfl, Nat.le_of_ble_eq_true rfl⟩ (fun _ _ _ _ h => h.calling) (fun U hU hW => ⟨by rw [hU], by rw [hU]; exact hP, hE.warm hW⟩) rfl (Nat.le_of_ble_eq_true rfl) dT_turnOf_48 ⟨Nat.le_of_ble_eq_true rfl, Nat.le_of_ble_eq_true rfl⟩) hS (fun M_4 H locs hr_48 hP hS => ?_)
  refine lv_aload_n hx hb dT_turnOf_51 rfl (lv_at hl 0 rfl) ?_
  refine bw_get (own := RT) (ci := 0) (C := RT) (T := TT) (N := 5) (v := .ref (ad 160)) hx hb hts inT hown hE hP 156 (by decide) rfl rfl 3 (by decide) w_29 rfl rfl dT_turnOf_52 ?_
  refine lv_aload_n hx hb dT_turnOf_55 rfl (lv_at hl 0 rfl) ?_
  refine bw_get (own := RT) (ci := 0) (C := RT) (T := TT) (N := 5) (v := .ref (ad 159)) hx hb hts inT hown hE hP 156 (by decide) rfl rfl 2 (by decide) w_28 rfl rfl dT_turnOf_56 ?_
  refine lv_aload_n hx hb dT_turnOf_59 rfl (lv_at hl 0 rfl) ?_
  refine bw_get (own := RT) (ci := 0) (C := RT) (T := TT) (N := 5) (v := .ref (ad 161)) hx hb hts inT hown hE hP 156 (by decide) rfl rfl 4 (by decide) w_30 rfl rfl dT_turnOf_60 ?_
  refine bc_callv (bc_runSN (own := RT) (host := RS) (As := [.ref (ad 160), .ref (ad 159), .ref (ad 161)]) (rest := []) hx hb (hml.trans hl.1.symm) hown hts (kS_multiply l D cs ad hI M_4 H.size 160 159 161 (by decide) (by decide) (by decide) (fun _ => rfl) (fun _ => rfl) (fun _ => rfl) (by decide) (by decide)) w_70 (hE.2 _ nst_31) w_69 w_1 hd_S_multiply rfl ⟨rfl, rfl⟩ ⟨Nat.le_of_ble_eq_true rfl, Nat.le_of_ble_eq_true rfl⟩ (fun _ _ _ _ h => h.calling) (fun U hU hW => ⟨by rw [hU], by rw [hU]; exact hP, hE.warm hW⟩) rfl (Nat.le_of_ble_eq_true rfl) dT_turnOf_63 ⟨Nat.le_of_ble_eq_true rfl, Nat.le_of_ble_eq_true rfl⟩) hS (fun M_5 H locs hr_63 hP hS => ?_)
  refine lv_aload_n hx hb dT_turnOf_66 rfl (lv_at hl 0 rfl) ?_
  refine bw_get (own := RT) (ci := 0) (C := RT) (T := TT) (N := 5) (v := .ref (ad 161)) hx hb hts inT hown hE hP 156 (by decide) rfl rfl 4 (by decide) w_30 rfl rfl dT_turnOf_67 ?_
  exact W.aret (v := .ref (ad 161)) hx hb hr (Or.inr ⟨_, rfl⟩) (Or.inr ⟨_, rfl⟩) (fun t ht hW => ⟨⟨M_5, _, rfl, turn_done hk hz hr_9 hr_21 hr_33 hr_48 hr_63, rfl, by show va_P _ _ _ t.heap; rw [ht]; exact hP⟩, hS.F ht⟩) hS.2.2 dT_turnOf_70

set_option maxHeartbeats 4000000 in
set_option maxRecDepth 100000 in
/-- LOCAL of a node, into its row -/
theorem kS_refreshLocal (l : Launch) (D : va_G) (cs : Nat → ClassId) (ad : Nat → Nat) (hI : bw_I ad 162) (M : Nat → Nat → Int32) (sz : Nat) (d : Nat) (hd : d < 48) (hz : sTZ M)  : Met l yS_refreshLocal (wc yS_refreshLocal cS_refreshLocal 8 none) ({ frames := 5, cells := 0, slots := 0, locals := 109 } : Room) (va_Pc [.ref (ad 0), .int (nI d)] (sP D cs ad M sz)) (bQv D ad 162 (sc_cell cs ad) sz (fun M1 => (∀ q, q < 157 → q ≠ 54 + d → M1 q = M q) ∧ sTZ M1 ∧ ∀ t, t < 12 → M1 (54 + d) t = jlocal (M (5 + d)) t)) 0 0 (bw_A ad 162 sz) := by
  refine Met.ofW (cc := cS_refreshLocal) (maxL := 8) (ret := none) (by decide +kernel) rfl ?_
  intro p e s m args below meth c s₁ B hml hv
  obtain ⟨rfl, hsz, hP, hE⟩ := hv
  subst hsz
  have hx := B.exec
  have hb := B.bytes
  have hr := B.returns
  have hts : ∀ w9 ∈ ws_all, w9.before ([.ref (ad 0), .int (nI d)] : List Value).toArray s = true := fun w9 h => atoms_spec (ws := (wc yS_refreshLocal cS_refreshLocal 8 none)) B.pre w9 (List.mem_cons_of_mem _ h)
  have hown : s.vm.findClass RS = some m.cls := findClass_of_methodNamed B.named
  have hlocks := B.notSynchronized
  have hS : va_S (bw_A ad 162 s.heap.size) s.heap s.heap [] := va_S.rf
  have hl := lv_entry ([.ref (ad 0), .int (nI d)]) (n := 8) (Nat.le_of_ble_eq_true rfl)
  rw [lg_entry_eq]
  generalize (lg_sl ([.ref (ad 0), .int (nI d)]) ++ List.replicate (8 - (lg_sl ([.ref (ad 0), .int (nI d)])).length) Slot.unset).toArray = ls at hl ⊢
  have hl : lv_has ls 8 [(0, .ref (ad 0)), (1, .int (nI d))] := hl
  refine lv_aload_n hx hb dS_refreshLocal_0 rfl (lv_at hl 0 rfl) ?_
  refine bw_get (own := RS) (ci := 1) (C := RS) (T := TS) (N := 14) (v := .ref (ad 4)) hx hb hts inS hown hE hP 0 (by decide) rfl rfl 4 (by decide) w_92 rfl rfl dS_refreshLocal_1 ?_
  refine lv_iload_n hx hb dS_refreshLocal_4 rfl (lv_at hl 1 rfl) ?_
  refine ln_aald (L := 48) hx hb hE hP 4 2 (by decide) (rfl) rfl (by omega) (by decide) (a := ad (5 + d)) (by first | rfl | (show (if _ then _ else _) = _; rw [if_pos (by omega)])) dS_refreshLocal_5 ?_
  refine lv_astore_n (lv' := [(2, .ref (ad (5 + d))), (0, .ref (ad 0)), (1, .int (nI d))]) hx hb dS_refreshLocal_6 rfl hl (by decide) rfl (fun ls hl => ?_)
  refine lv_aload_n hx hb dS_refreshLocal_7 rfl (lv_at hl 1 rfl) ?_
  refine bw_get (own := RS) (ci := 1) (C := RS) (T := TS) (N := 14) (v := .ref (ad 53)) hx hb hts inS hown hE hP 0 (by decide) rfl rfl 5 (by decide) w_93 rfl rfl dS_refreshLocal_8 ?_
  refine lv_iload_n hx hb dS_refreshLocal_11 rfl (lv_at hl 2 rfl) ?_
  refine ln_aald (L := 48) hx hb hE hP 53 2 (by decide) (rfl) rfl (by omega) (by decide) (a := ad (54 + d)) (by first | rfl | (show (if _ then _ else _) = _; rw [if_pos (by omega)])) dS_refreshLocal_12 ?_
  refine lv_astore_n (lv' := [(3, .ref (ad (54 + d))), (2, .ref (ad (5 + d))), (0, .ref (ad 0)), (1, .int (nI d))]) hx hb dS_refreshLocal_13 rfl hl (by decide) rfl (fun ls hl => ?_)
  refine lv_aload_n hx hb dS_refreshLocal_14 rfl (lv_at hl 2 rfl) ?_
  refine bw_get (own := RS) (ci := 1) (C := RS) (T := TS) (N := 14) (v := .ref (ad 156)) hx hb hts inS hown hE hP 0 (by decide) rfl rfl 13 (by decide) w_101 rfl rfl dS_refreshLocal_15 ?_
  refine lv_aload_n hx hb dS_refreshLocal_18 rfl (lv_at hl 1 rfl) ?_
  refine bc_callr (bc_runVN (own := RS) (C := RT) (host := RS) (As := [.ref (ad (5 + d))]) (rest := []) hx hb (hml.trans hl.1.symm) hown hts (kT_turnOf l D cs ad hI M s.heap.size (5 + d) (by omega) (fun _ => sc_row5 hd) hz) w_51 (hE.2 _ nst_118) w_50 ws_sel_T_turnOf w_2 hd_T_turnOf rfl ⟨rfl, rfl⟩ ⟨Nat.le_of_ble_eq_true rfl, Nat.le_of_ble_eq_true rfl⟩ (fun _ _ _ _ h => h.calling) (bc_recv (r := (RT, TT, 5)) hE hP 156 (by decide) rfl rfl) (fun U hU hW => ⟨by rw [hU], by rw [hU]; exact hP, hE.warm hW⟩) rfl (Nat.le_of_ble_eq_true rfl) dS_refreshLocal_19 ⟨Nat.le_of_ble_eq_true rfl, Nat.le_of_ble_eq_true rfl⟩) hS (fun M_1 H locs hr_19 hP hS => ?_)
  refine lv_astore (lv' := [(4, .ref (ad 161)), (3, .ref (ad (54 + d))), (2, .ref (ad (5 + d))), (0, .ref (ad 0)), (1, .int (nI d))]) hx hb dS_refreshLocal_22 hl (by decide) rfl (fun ls hl => ?_)
  refine lv_iconst (v := nI 0) hx hb dS_refreshLocal_24 (by decide) ?_
  refine lv_istore (lv' := [(5, .int (nI 0)), (4, .ref (ad 161)), (3, .ref (ad (54 + d))), (2, .ref (ad (5 + d))), (0, .ref (ad 0)), (1, .int (nI d))]) hx hb dS_refreshLocal_25 hl (by decide) rfl (fun ls hl => ?_)
  have loop : ∀ k : Nat, (∀ (i : Nat)  (M1 : Nat → Nat → Int32) (H : Heap) (locs : List Loc) (ls : Array Slot), i ≤ 3 → mfill M_1 M1 (54 + d) (4 * i) (jlc (M_1 161) (M_1 (5 + d))) → 6 * (3 - i) < k → va_P D cls3 (bw ad 162 (fun j => sc_cell cs ad j (M1 j))) H → va_S (bw_A ad 162 s.heap.size) s.heap H locs → lv_has ls 8 [(5, .int (nI i)), (0, .ref (ad 0)), (1, .int (nI d)), (2, .ref (ad (5 + d))), (3, .ref (ad (54 + d))), (4, .ref (ad 161))] → W p l e (headSpec (wc yS_refreshLocal cS_refreshLocal 8 none) ({ frames := 5, cells := 0, slots := 0, locals := 109 } : Room)).room s m ([.ref (ad 0), .int (nI d)] : List Value).toArray below meth c H locs 0 0 (MQ below (bQv D ad 162 (sc_cell cs ad) s.heap.size (fun M1 => (∀ q, q < 157 → q ≠ 54 + d → M1 q = M q) ∧ sTZ M1 ∧ ∀ t, t < 12 → M1 (54 + d) t = jlocal (M (5 + d)) t)) ([.ref (ad 0), .int (nI d)] : List Value).toArray s 0 0 (bw_A ad 162 s.heap.size)) (F0 m 27 ls [])) ∧ (∀ (i : Nat) (j : Nat)  (M1 : Nat → Nat → Int32) (H : Heap) (locs : List Loc) (ls : Array Slot), i < 3 → j ≤ 3 → mfill M_1 M1 (54 + d) (4 * i + j) (jlc (M_1 161) (M_1 (5 + d))) → 6 * (3 - i) - 1 - j < k → va_P D cls3 (bw ad 162 (fun j => sc_cell cs ad j (M1 j))) H → va_S (bw_A ad 162 s.heap.size) s.heap H locs → lv_has ls 8 [(5, .int (nI i)), (6, .int (nI j)), (0, .ref (ad 0)), (1, .int (nI d)), (2, .ref (ad (5 + d))), (3, .ref (ad (54 + d))), (4, .ref (ad 161))] → W p l e (headSpec (wc yS_refreshLocal cS_refreshLocal 8 none) ({ frames := 5, cells := 0, slots := 0, locals := 109 } : Room)).room s m ([.ref (ad 0), .int (nI d)] : List Value).toArray below meth c H locs 0 0 (MQ below (bQv D ad 162 (sc_cell cs ad) s.heap.size (fun M1 => (∀ q, q < 157 → q ≠ 54 + d → M1 q = M q) ∧ sTZ M1 ∧ ∀ t, t < 12 → M1 (54 + d) t = jlocal (M (5 + d)) t)) ([.ref (ad 0), .int (nI d)] : List Value).toArray s 0 0 (bw_A ad 162 s.heap.size)) (F0 m 36 ls [])) := by
    intro k
    induction k with
    | zero => exact ⟨by intros; omega, by intros; omega⟩
    | succ k ih =>
      refine ⟨?_, ?_⟩
      · skip
        intro i  M1 H locs ls hi hinv hmu hP hS hl
        refine lv_iload hx hb dS_refreshLocal_27 (lv_at hl 0 rfl) ?_
        refine lv_iconst (v := nI 3) hx hb dS_refreshLocal_29 (by decide) ?_
        refine ln_icmp_ge (tgt := 101) hx hb dS_refreshLocal_30 (by decide) (by omega) (by omega) (fun c_30 => ?_) (fun c_30 => ?_)
        · skip
          exact W.vret hx hb hr (fun t ht hW => ⟨⟨M1, rfl, ⟨fun q hq hne => (hinv.1 q hne).trans (hr_19.1 q hq), ⟨fun t ht => by rw [hinv.1 157 (by omega)]; exact hr_19.2.1.1 t ht, fun t ht => by rw [hinv.1 158 (by omega)]; exact hr_19.2.1.2.1 t ht, fun t ht => by rw [hinv.1 159 (by omega)]; exact hr_19.2.1.2.2 t ht⟩, fun t ht => by rw [mfill.done (hinv.le (by omega)) ht]; exact jlc_congr hr_19.2.2 (fun u _ => by rw [hr_19.1 (5 + d) (by omega)]) (by omega) (by omega)⟩, by show va_P _ _ _ t.heap; rw [ht]; exact hP⟩, hS.F ht⟩) hS.2.2 dS_refreshLocal_101
        · skip
          refine lv_iconst (v := nI 0) hx hb dS_refreshLocal_33 (by decide) ?_
          refine lv_istore (lv' := [(6, .int (nI 0)), (5, .int (nI i)), (0, .ref (ad 0)), (1, .int (nI d)), (2, .ref (ad (5 + d))), (3, .ref (ad (54 + d))), (4, .ref (ad 161))]) hx hb dS_refreshLocal_34 hl (by decide) rfl (fun ls hl => ?_)
          exact ih.2 i 0  M1 H locs ls (by omega) (by omega) (hinv) (by omega) hP hS (lv_sub hl [1, 0, 2, 3, 4, 5, 6] rfl)
      · skip
        intro i j  M1 H locs ls hi hj0 hinv hmu hP hS hl
        refine lv_iload hx hb dS_refreshLocal_36 (lv_at hl 1 rfl) ?_
        refine lv_iconst (v := nI 3) hx hb dS_refreshLocal_38 (by decide) ?_
        refine ln_icmp_ge (tgt := 81) hx hb dS_refreshLocal_39 (by decide) (by omega) (by omega) (fun c_39 => ?_) (fun c_39 => ?_)
        · skip
          have hj3 : j = 3 := by omega
          rw [hj3] at hinv
          refine lv_aload_n hx hb dS_refreshLocal_81 rfl (lv_at hl 5 rfl) ?_
          refine lv_iconst (v := nI 4) hx hb dS_refreshLocal_82 (by decide) ?_
          refine lv_iload hx hb dS_refreshLocal_83 (lv_at hl 0 rfl) ?_
          refine ln_imul hx hb dS_refreshLocal_85 ?_
          refine lv_iconst (v := nI 3) hx hb dS_refreshLocal_86 (by decide) ?_
          refine ln_iadd hx hb dS_refreshLocal_87 ?_
          refine lv_aload_n hx hb dS_refreshLocal_88 rfl (lv_at hl 4 rfl) ?_
          refine lv_iconst (v := nI 0) hx hb dS_refreshLocal_89 (by decide) ?_
          refine lv_iload hx hb dS_refreshLocal_90 (lv_at hl 0 rfl) ?_
          refine ln_iadd hx hb dS_refreshLocal_92 ?_
          refine ln_iald (L := 9) (g := (M1 (5 + d))) hx hb hE hP (5 + d) 0 (by omega) (sc_row5 (by omega)) rfl (by omega) (by decide) dS_refreshLocal_93 ?_
          refine ln_iast (L := 12) hx hb hE hI hP hS (54 + d) 0 (by omega) (sc_row54 (by omega)) rfl (by omega) (by decide) (upd (M1 (54 + d)) ((4 * i) + 3) (M1 (5 + d) (0 + i))) (sc_row54 (by omega)) dS_refreshLocal_94 (fun M_2 H locs eM_2 hP hS => ?_)
          refine lv_iinc (v := nI (i + 1)) (lv' := [(5, .int (nI (i + 1))), (6, .int (nI j)), (0, .ref (ad 0)), (1, .int (nI d)), (2, .ref (ad (5 + d))), (3, .ref (ad (54 + d))), (4, .ref (ad 161))]) hx hb dS_refreshLocal_95 hl (k := 0) rfl (nI_add i 1) (by decide) rfl (fun ls hl => ?_)
          refine lv_goto (tgt := 27) hx hb dS_refreshLocal_98 (by decide) ?_
          exact ih.1 (i + 1)  M_2 H locs ls (by omega) (mfill.le (hinv.step eM_2 (by rw [hinv.1 (5 + d) (by omega)]; unfold jlc; rw [if_pos rfl]) (by decide)) (by omega)) (by omega) hP hS (lv_sub hl [0, 2, 3, 4, 5, 6] rfl)
        · skip
          refine lv_iconst (v := nI 4) hx hb dS_refreshLocal_42 (by decide) ?_
          refine lv_iload hx hb dS_refreshLocal_43 (lv_at hl 0 rfl) ?_
          refine ln_imul hx hb dS_refreshLocal_45 ?_
          refine lv_iload hx hb dS_refreshLocal_46 (lv_at hl 1 rfl) ?_
          refine ln_iadd hx hb dS_refreshLocal_48 ?_
          refine lv_istore (lv' := [(7, .int (nI ((4 * i) + j))), (5, .int (nI i)), (6, .int (nI j)), (0, .ref (ad 0)), (1, .int (nI d)), (2, .ref (ad (5 + d))), (3, .ref (ad (54 + d))), (4, .ref (ad 161))]) hx hb dS_refreshLocal_49 hl (by decide) rfl (fun ls hl => ?_)
          refine lv_aload_n hx hb dS_refreshLocal_51 rfl (lv_at hl 6 rfl) ?_
          refine lv_iload hx hb dS_refreshLocal_52 (lv_at hl 0 rfl) ?_
          refine lv_aload hx hb dS_refreshLocal_54 (lv_at hl 7 rfl) ?_
          refine lv_iload hx hb dS_refreshLocal_56 (lv_at hl 0 rfl) ?_
          refine ln_iald (L := 12) (g := (M1 161)) hx hb hE hP 161 0 (by decide) (rfl) rfl (by omega) (by decide) dS_refreshLocal_58 ?_
          refine lv_i2l (v := (M1 161 ((4 * i) + j)).toInt64) hx hb dS_refreshLocal_59 rfl ?_
          refine lv_aload_n hx hb dS_refreshLocal_60 rfl (lv_at hl 5 rfl) ?_
          refine lv_bipush (v := nI 6) hx hb dS_refreshLocal_61 (by decide) ?_
          refine lv_iload hx hb dS_refreshLocal_63 (lv_at hl 2 rfl) ?_
          refine ln_iadd hx hb dS_refreshLocal_65 ?_
          refine ln_iald (L := 9) (g := (M1 (5 + d))) hx hb hE hP (5 + d) 0 (by omega) (sc_row5 (by omega)) rfl (by omega) (by decide) dS_refreshLocal_66 ?_
          refine lv_i2l (v := (M1 (5 + d) (6 + j)).toInt64) hx hb dS_refreshLocal_67 rfl ?_
          refine vp_callSl (va_Run.run (bc_runS (own := RS) (As := [.long ((M1 161 ((4 * i) + j)).toInt64), .long ((M1 (5 + d) (6 + j)).toInt64)]) (rest := [.int (nI ((4 * i) + j)), .ref (ad (54 + d))]) hx hb (hml.trans hl.1.symm) hown hts (kS_mul l ((M1 161 ((4 * i) + j)).toInt64) ((M1 (5 + d) (6 + j)).toInt64)) w_76 w_74 w_75 w_1 hd_S_mul rfl ⟨rfl, rfl⟩ ⟨Nat.le_of_ble_eq_true rfl, Nat.le_of_ble_eq_true rfl⟩ (fun _ _ _ _ _ => trivial) (fun _ _ _ => trivial) rfl (Nat.le_of_ble_eq_true rfl) dS_refreshLocal_68 ⟨Nat.le_of_ble_eq_true rfl, Nat.le_of_ble_eq_true rfl⟩)) (fun r_68 hr_68 => ?_)
          refine ln_asl (jmul (M1 161 (4 * i + j)).toInt64 (M1 (5 + d) (6 + j)).toInt64) (by exact hr_68) ?_
          refine vp_callSi (va_Run.run (bc_runS (own := RS) (As := [.long (jmul (M1 161 (4 * i + j)).toInt64 (M1 (5 + d) (6 + j)).toInt64)]) (rest := [.int (nI ((4 * i) + j)), .ref (ad (54 + d))]) hx hb (hml.trans hl.1.symm) hown hts (kS_bound l (jmul (M1 161 (4 * i + j)).toInt64 (M1 (5 + d) (6 + j)).toInt64)) w_79 w_77 w_78 w_1 hd_S_bound rfl ⟨rfl, rfl⟩ ⟨Nat.le_of_ble_eq_true rfl, Nat.le_of_ble_eq_true rfl⟩ (fun _ _ _ _ _ => trivial) (fun _ _ _ => trivial) rfl (Nat.le_of_ble_eq_true rfl) dS_refreshLocal_71 ⟨Nat.le_of_ble_eq_true rfl, Nat.le_of_ble_eq_true rfl⟩)) (fun r_71 hr_71 => ?_)
          refine ln_iast (L := 12) hx hb hE hI hP hS (54 + d) 0 (by omega) (sc_row54 (by omega)) rfl (by omega) (by decide) (upd (M1 (54 + d)) ((4 * i) + j) r_71) (sc_row54 (by omega)) dS_refreshLocal_74 (fun M_3 H locs eM_3 hP hS => ?_)
          refine lv_iinc (v := nI (j + 1)) (lv' := [(6, .int (nI (j + 1))), (7, .int (nI ((4 * i) + j))), (5, .int (nI i)), (0, .ref (ad 0)), (1, .int (nI d)), (2, .ref (ad (5 + d))), (3, .ref (ad (54 + d))), (4, .ref (ad 161))]) hx hb dS_refreshLocal_75 hl (k := 2) rfl (nI_add j 1) (by decide) rfl (fun ls hl => ?_)
          refine lv_goto (tgt := 36) hx hb dS_refreshLocal_78 (by decide) ?_
          exact ih.2 i (j + 1)  M_3 H locs ls (by omega) (by omega) (hinv.step eM_3 (by rw [hr_71, hinv.1 161 (by omega), hinv.1 (5 + d) (by omega)]; unfold jlc; rw [if_neg (by omega)]) (by omega)) (by omega) hP hS (lv_sub hl [2, 0, 3, 4, 5, 6, 7] rfl)
  exact (loop 100000).1 0  M_1 H locs ls (by omega) (mfill.zero) (by omega) hP hS (lv_sub hl [0, 4, 5, 3, 2, 1] rfl)

set_option maxHeartbeats 4000000 in
set_option maxRecDepth 100000 in
/-- VIEW -/
theorem kS_refreshView (l : Launch) (D : va_G) (cs : Nat → ClassId) (ad : Nat → Nat) (hI : bw_I ad 162) (M : Nat → Nat → Int32) (sz : Nat) (hz : sTZ M)  : Met l yS_refreshView (wc yS_refreshView cS_refreshView 7 none) ({ frames := 5, cells := 0, slots := 0, locals := 109 } : Room) (va_Pc [.ref (ad 0)] (sP D cs ad M sz)) (bQv D ad 162 (sc_cell cs ad) sz (fun M1 => (∀ q, q < 157 → q ≠ 152 → M1 q = M q) ∧ sTZ M1 ∧ ∀ t, t < 12 → M1 152 t = jview (M 151) t)) 0 0 (bw_A ad 162 sz) := by
  refine Met.ofW (cc := cS_refreshView) (maxL := 7) (ret := none) (by decide +kernel) rfl ?_
  intro p e s m args below meth c s₁ B hml hv
  obtain ⟨rfl, hsz, hP, hE⟩ := hv
  subst hsz
  have hx := B.exec
  have hb := B.bytes
  have hr := B.returns
  have hts : ∀ w9 ∈ ws_all, w9.before ([.ref (ad 0)] : List Value).toArray s = true := fun w9 h => atoms_spec (ws := (wc yS_refreshView cS_refreshView 7 none)) B.pre w9 (List.mem_cons_of_mem _ h)
  have hown : s.vm.findClass RS = some m.cls := findClass_of_methodNamed B.named
  have hlocks := B.notSynchronized
  have hS : va_S (bw_A ad 162 s.heap.size) s.heap s.heap [] := va_S.rf
  have hl := lv_entry ([.ref (ad 0)]) (n := 7) (Nat.le_of_ble_eq_true rfl)
  rw [lg_entry_eq]
  generalize (lg_sl ([.ref (ad 0)]) ++ List.replicate (7 - (lg_sl ([.ref (ad 0)])).length) Slot.unset).toArray = ls at hl ⊢
  have hl : lv_has ls 7 [(0, .ref (ad 0))] := hl
  refine lv_aload_n hx hb dS_refreshView_0 rfl (lv_at hl 0 rfl) ?_
  refine bw_get (own := RS) (ci := 1) (C := RS) (T := TS) (N := 14) (v := .ref (ad 156)) hx hb hts inS hown hE hP 0 (by decide) rfl rfl 13 (by decide) w_101 rfl rfl dS_refreshView_1 ?_
  refine lv_aload_n hx hb dS_refreshView_4 rfl (lv_at hl 0 rfl) ?_
  refine bw_get (own := RS) (ci := 1) (C := RS) (T := TS) (N := 14) (v := .ref (ad 151)) hx hb hts inS hown hE hP 0 (by decide) rfl rfl 8 (by decide) w_96 rfl rfl dS_refreshView_5 ?_
  refine bc_callr (bc_runVN (own := RS) (C := RT) (host := RS) (As := [.ref (ad 151)]) (rest := []) hx hb (hml.trans hl.1.symm) hown hts (kT_turnOf l D cs ad hI M s.heap.size 151 (by decide) (fun _ => rfl) hz) w_51 (hE.2 _ nst_118) w_50 ws_sel_T_turnOf w_2 hd_T_turnOf rfl ⟨rfl, rfl⟩ ⟨Nat.le_of_ble_eq_true rfl, Nat.le_of_ble_eq_true rfl⟩ (fun _ _ _ _ h => h.calling) (bc_recv (r := (RT, TT, 5)) hE hP 156 (by decide) rfl rfl) (fun U hU hW => ⟨by rw [hU], by rw [hU]; exact hP, hE.warm hW⟩) rfl (Nat.le_of_ble_eq_true rfl) dS_refreshView_8 ⟨Nat.le_of_ble_eq_true rfl, Nat.le_of_ble_eq_true rfl⟩) hS (fun M_1 H locs hr_8 hP hS => ?_)
  refine lv_astore_n (lv' := [(1, .ref (ad 161)), (0, .ref (ad 0))]) hx hb dS_refreshView_11 rfl hl (by decide) rfl (fun ls hl => ?_)
  refine lv_iconst (v := nI 0) hx hb dS_refreshView_12 (by decide) ?_
  refine lv_istore_n (lv' := [(2, .int (nI 0)), (1, .ref (ad 161)), (0, .ref (ad 0))]) hx hb dS_refreshView_13 rfl hl (by decide) rfl (fun ls hl => ?_)
  have loop : ∀ k : Nat, (∀ (i : Nat)  (M1 : Nat → Nat → Int32) (H : Heap) (locs : List Loc) (ls : Array Slot), i ≤ 3 → mfill M_1 M1 152 (4 * i) (jvc (M_1 161) (M_1 151)) → 6 * (3 - i) < k → va_P D cls3 (bw ad 162 (fun j => sc_cell cs ad j (M1 j))) H → va_S (bw_A ad 162 s.heap.size) s.heap H locs → lv_has ls 7 [(2, .int (nI i)), (0, .ref (ad 0)), (1, .ref (ad 161))] → W p l e (headSpec (wc yS_refreshView cS_refreshView 7 none) ({ frames := 5, cells := 0, slots := 0, locals := 109 } : Room)).room s m ([.ref (ad 0)] : List Value).toArray below meth c H locs 0 0 (MQ below (bQv D ad 162 (sc_cell cs ad) s.heap.size (fun M1 => (∀ q, q < 157 → q ≠ 152 → M1 q = M q) ∧ sTZ M1 ∧ ∀ t, t < 12 → M1 152 t = jview (M 151) t)) ([.ref (ad 0)] : List Value).toArray s 0 0 (bw_A ad 162 s.heap.size)) (F0 m 14 ls [])) ∧ (∀ (i : Nat) (j : Nat)  (M1 : Nat → Nat → Int32) (H : Heap) (locs : List Loc) (ls : Array Slot), i < 3 → j ≤ 3 → mfill M_1 M1 152 (4 * i + j) (jvc (M_1 161) (M_1 151)) → 6 * (3 - i) - 1 - j < k → va_P D cls3 (bw ad 162 (fun j => sc_cell cs ad j (M1 j))) H → va_S (bw_A ad 162 s.heap.size) s.heap H locs → lv_has ls 7 [(2, .int (nI i)), (5, .int (nI j)), (0, .ref (ad 0)), (1, .ref (ad 161)), (3, .long (jal (M_1 161) (M_1 151) i j))] → W p l e (headSpec (wc yS_refreshView cS_refreshView 7 none) ({ frames := 5, cells := 0, slots := 0, locals := 109 } : Room)).room s m ([.ref (ad 0)] : List Value).toArray below meth c H locs 0 0 (MQ below (bQv D ad 162 (sc_cell cs ad) s.heap.size (fun M1 => (∀ q, q < 157 → q ≠ 152 → M1 q = M q) ∧ sTZ M1 ∧ ∀ t, t < 12 → M1 152 t = jview (M 151) t)) ([.ref (ad 0)] : List Value).toArray s 0 0 (bw_A ad 162 s.heap.size)) (F0 m 24 ls [])) := by
    intro k
    induction k with
    | zero => exact ⟨by intros; omega, by intros; omega⟩
    | succ k ih =>
      refine ⟨?_, ?_⟩
      · skip
        intro i  M1 H locs ls hi hinv hmu hP hS hl
        refine lv_iload_n hx hb dS_refreshView_14 rfl (lv_at hl 0 rfl) ?_
        refine lv_iconst (v := nI 3) hx hb dS_refreshView_15 (by decide) ?_
        refine ln_icmp_ge (tgt := 104) hx hb dS_refreshView_16 (by decide) (by omega) (by omega) (fun c_16 => ?_) (fun c_16 => ?_)
        · skip
          exact W.vret hx hb hr (fun t ht hW => ⟨⟨M1, rfl, ⟨fun q hq hne => (hinv.1 q hne).trans (hr_8.1 q hq), ⟨fun t ht => by rw [hinv.1 157 (by omega)]; exact hr_8.2.1.1 t ht, fun t ht => by rw [hinv.1 158 (by omega)]; exact hr_8.2.1.2.1 t ht, fun t ht => by rw [hinv.1 159 (by omega)]; exact hr_8.2.1.2.2 t ht⟩, fun t ht => by rw [mfill.done (hinv.le (by omega)) ht]; exact jvc_congr hr_8.2.2 (fun u _ => by rw [hr_8.1 151 (by decide)]) (by omega) (by omega)⟩, by show va_P _ _ _ t.heap; rw [ht]; exact hP⟩, hS.F ht⟩) hS.2.2 dS_refreshView_104
        · skip
          refine lv_lconst (v := 0) hx hb dS_refreshView_19 (by decide) ?_
          refine lv_lstore_n (lv' := [(3, .long 0), (2, .int (nI i)), (0, .ref (ad 0)), (1, .ref (ad 161))]) hx hb dS_refreshView_20 rfl hl (by decide) rfl (fun ls hl => ?_)
          refine lv_iconst (v := nI 0) hx hb dS_refreshView_21 (by decide) ?_
          refine lv_istore (lv' := [(5, .int (nI 0)), (3, .long 0), (2, .int (nI i)), (0, .ref (ad 0)), (1, .ref (ad 161))]) hx hb dS_refreshView_22 hl (by decide) rfl (fun ls hl => ?_)
          exact ih.2 i 0  M1 H locs ls (by omega) (by omega) (hinv) (by omega) hP hS (lv_sub hl [2, 0, 3, 4, 1] rfl)
      · skip
        intro i j  M1 H locs ls hi hj0 hinv hmu hP hS hl
        refine lv_iload hx hb dS_refreshView_24 (lv_at hl 1 rfl) ?_
        refine lv_iconst (v := nI 3) hx hb dS_refreshView_26 (by decide) ?_
        refine ln_icmp_ge (tgt := 83) hx hb dS_refreshView_27 (by decide) (by omega) (by omega) (fun c_27 => ?_) (fun c_27 => ?_)
        · skip
          have hj3 : j = 3 := by omega
          rw [hj3] at hinv
          refine lv_aload_n hx hb dS_refreshView_83 rfl (lv_at hl 2 rfl) ?_
          refine bw_get (own := RS) (ci := 1) (C := RS) (T := TS) (N := 14) (v := .ref (ad 152)) hx hb hts inS hown hE hP 0 (by decide) rfl rfl 9 (by decide) w_97 rfl rfl dS_refreshView_84 ?_
          refine lv_iconst (v := nI 4) hx hb dS_refreshView_87 (by decide) ?_
          refine lv_iload_n hx hb dS_refreshView_88 rfl (lv_at hl 0 rfl) ?_
          refine ln_imul hx hb dS_refreshView_89 ?_
          refine lv_iconst (v := nI 3) hx hb dS_refreshView_90 (by decide) ?_
          refine ln_iadd hx hb dS_refreshView_91 ?_
          refine lv_lload_n hx hb dS_refreshView_92 rfl (lv_at hl 4 rfl) ?_
          refine lv_lneg hx hb dS_refreshView_93 ?_
          refine vp_callSi (va_Run.run (bc_runS (own := RS) (As := [.long (-(jal (M_1 161) (M_1 151) i j))]) (rest := [.int (nI ((4 * i) + 3)), .ref (ad 152)]) hx hb (hml.trans hl.1.symm) hown hts (kS_bound l (-(jal (M_1 161) (M_1 151) i j))) w_79 w_77 w_78 w_1 hd_S_bound rfl ⟨rfl, rfl⟩ ⟨Nat.le_of_ble_eq_true rfl, Nat.le_of_ble_eq_true rfl⟩ (fun _ _ _ _ _ => trivial) (fun _ _ _ => trivial) rfl (Nat.le_of_ble_eq_true rfl) dS_refreshView_94 ⟨Nat.le_of_ble_eq_true rfl, Nat.le_of_ble_eq_true rfl⟩)) (fun r_94 hr_94 => ?_)
          refine ln_iast (L := 12) hx hb hE hI hP hS 152 0 (by decide) (rfl) rfl (by omega) (by decide) (upd (M1 152) ((4 * i) + 3) r_94) (rfl) dS_refreshView_97 (fun M_2 H locs eM_2 hP hS => ?_)
          refine lv_iinc (v := nI (i + 1)) (lv' := [(2, .int (nI (i + 1))), (5, .int (nI j)), (0, .ref (ad 0)), (1, .ref (ad 161)), (3, .long (jal (M_1 161) (M_1 151) i j))]) hx hb dS_refreshView_98 hl (k := 0) rfl (nI_add i 1) (by decide) rfl (fun ls hl => ?_)
          refine lv_goto (tgt := 14) hx hb dS_refreshView_101 (by decide) ?_
          exact ih.1 (i + 1)  M_2 H locs ls (by omega) (mfill.le (hinv.step eM_2 (by rw [hr_94, hj3]; unfold jvc; rw [if_pos rfl]) (by decide)) (by omega)) (by omega) hP hS (lv_sub hl [0, 2, 3] rfl)
        · skip
          refine lv_iconst (v := nI 4) hx hb dS_refreshView_30 (by decide) ?_
          refine lv_iload_n hx hb dS_refreshView_31 rfl (lv_at hl 0 rfl) ?_
          refine ln_imul hx hb dS_refreshView_32 ?_
          refine lv_iload hx hb dS_refreshView_33 (lv_at hl 1 rfl) ?_
          refine ln_iadd hx hb dS_refreshView_35 ?_
          refine lv_istore (lv' := [(6, .int (nI ((4 * i) + j))), (2, .int (nI i)), (5, .int (nI j)), (0, .ref (ad 0)), (1, .ref (ad 161)), (3, .long (jal (M_1 161) (M_1 151) i j))]) hx hb dS_refreshView_36 hl (by decide) rfl (fun ls hl => ?_)
          refine lv_aload_n hx hb dS_refreshView_38 rfl (lv_at hl 3 rfl) ?_
          refine bw_get (own := RS) (ci := 1) (C := RS) (T := TS) (N := 14) (v := .ref (ad 152)) hx hb hts inS hown hE hP 0 (by decide) rfl rfl 9 (by decide) w_97 rfl rfl dS_refreshView_39 ?_
          refine lv_iload hx hb dS_refreshView_42 (lv_at hl 0 rfl) ?_
          refine lv_aload_n hx hb dS_refreshView_44 rfl (lv_at hl 4 rfl) ?_
          refine lv_iconst (v := nI 4) hx hb dS_refreshView_45 (by decide) ?_
          refine lv_iload hx hb dS_refreshView_46 (lv_at hl 2 rfl) ?_
          refine ln_imul hx hb dS_refreshView_48 ?_
          refine lv_iload_n hx hb dS_refreshView_49 rfl (lv_at hl 1 rfl) ?_
          refine ln_iadd hx hb dS_refreshView_50 ?_
          refine ln_iald (L := 12) (g := (M1 161)) hx hb hE hP 161 0 (by decide) (rfl) rfl (by omega) (by decide) dS_refreshView_51 ?_
          refine ln_iast (L := 12) hx hb hE hI hP hS 152 0 (by decide) (rfl) rfl (by omega) (by decide) (upd (M1 152) ((4 * i) + j) (M1 161 ((4 * j) + i))) (rfl) dS_refreshView_52 (fun M_3 H locs eM_3 hP hS => ?_)
          refine lv_lload_n hx hb dS_refreshView_53 rfl (lv_at hl 5 rfl) ?_
          refine lv_aload_n hx hb dS_refreshView_54 rfl (lv_at hl 3 rfl) ?_
          refine bw_get (own := RS) (ci := 1) (C := RS) (T := TS) (N := 14) (v := .ref (ad 152)) hx hb hts inS hown hE hP 0 (by decide) rfl rfl 9 (by decide) w_97 rfl rfl dS_refreshView_55 ?_
          refine lv_iload hx hb dS_refreshView_58 (lv_at hl 0 rfl) ?_
          refine ln_iald (L := 12) (g := (M_3 152)) hx hb hE hP 152 0 (by decide) (rfl) rfl (by omega) (by decide) dS_refreshView_60 ?_
          refine lv_i2l (v := (M_3 152 ((4 * i) + j)).toInt64) hx hb dS_refreshView_61 rfl ?_
          refine lv_aload_n hx hb dS_refreshView_62 rfl (lv_at hl 3 rfl) ?_
          refine bw_get (own := RS) (ci := 1) (C := RS) (T := TS) (N := 14) (v := .ref (ad 151)) hx hb hts inS hown hE hP 0 (by decide) rfl rfl 8 (by decide) w_96 rfl rfl dS_refreshView_63 ?_
          refine lv_iconst (v := nI 0) hx hb dS_refreshView_66 (by decide) ?_
          refine lv_iload hx hb dS_refreshView_67 (lv_at hl 2 rfl) ?_
          refine ln_iadd hx hb dS_refreshView_69 ?_
          refine ln_iald (L := 9) (g := (M_3 151)) hx hb hE hP 151 0 (by decide) (rfl) rfl (by omega) (by decide) dS_refreshView_70 ?_
          refine lv_i2l (v := (M_3 151 (0 + j)).toInt64) hx hb dS_refreshView_71 rfl ?_
          refine vp_callSl (va_Run.run (bc_runS (own := RS) (As := [.long ((M_3 152 ((4 * i) + j)).toInt64), .long ((M_3 151 (0 + j)).toInt64)]) (rest := [.long (jal (M_1 161) (M_1 151) i j)]) hx hb (hml.trans hl.1.symm) hown hts (kS_mul l ((M_3 152 ((4 * i) + j)).toInt64) ((M_3 151 (0 + j)).toInt64)) w_76 w_74 w_75 w_1 hd_S_mul rfl ⟨rfl, rfl⟩ ⟨Nat.le_of_ble_eq_true rfl, Nat.le_of_ble_eq_true rfl⟩ (fun _ _ _ _ _ => trivial) (fun _ _ _ => trivial) rfl (Nat.le_of_ble_eq_true rfl) dS_refreshView_72 ⟨Nat.le_of_ble_eq_true rfl, Nat.le_of_ble_eq_true rfl⟩)) (fun r_72 hr_72 => ?_)
          refine lv_ladd hx hb dS_refreshView_75 ?_
          refine ln_asl (jal (M_1 161) (M_1 151) i (j + 1)) (by rw [hr_72, eM_3, va_up_self, pk_us, va_up_ne _ _ (by decide), hinv.1 161 (by decide), hinv.1 151 (by decide)]; rfl) ?_
          refine lv_lstore_n (lv' := [(3, .long (jal (M_1 161) (M_1 151) i (j + 1))), (6, .int (nI ((4 * i) + j))), (2, .int (nI i)), (5, .int (nI j)), (0, .ref (ad 0)), (1, .ref (ad 161))]) hx hb dS_refreshView_76 rfl hl (by decide) rfl (fun ls hl => ?_)
          refine lv_iinc (v := nI (j + 1)) (lv' := [(5, .int (nI (j + 1))), (3, .long (jal (M_1 161) (M_1 151) i (j + 1))), (6, .int (nI ((4 * i) + j))), (2, .int (nI i)), (0, .ref (ad 0)), (1, .ref (ad 161))]) hx hb dS_refreshView_77 hl (k := 3) rfl (nI_add j 1) (by decide) rfl (fun ls hl => ?_)
          refine lv_goto (tgt := 24) hx hb dS_refreshView_80 (by decide) ?_
          exact ih.2 i (j + 1)  M_3 H locs ls (by omega) (by omega) (hinv.step eM_3 (by rw [hinv.1 161 (by decide)]; unfold jvc; rw [if_neg (by omega)]) (by omega)) (by omega) hP hS (lv_sub hl [3, 0, 4, 5, 1] rfl)
  exact (loop 100000).1 0  M_1 H locs ls (by omega) (mfill.zero) (by omega) hP hS (lv_sub hl [0, 2, 1] rfl)
end
section
/-! WORLDS, WHO IS SEEN, THE ORDER (the class) -/
section BCP
variable {p : Program} {l : Launch} {e : Env} {R : Room} {s : State} {m : MethodId} {args : Array Value} {below : List Frame} {meth : Method} {c : Code} {H : Heap} {locs : List Loc} {cells slots : Nat} {Q : State → Prop}
variable {cc : ByteArray} {pc : Nat} {ls : Array Slot} {rest : List Value} {D : va_G} {tys : List (ClassId × FieldType)} {ad : Nat → Nat} {n : Nat}
theorem bw_copyi {ρ : Type} {cell : Nat → ρ → va_E} {M : Nat → ρ} (hx : p.tables.exec = Jvm.exec) (hb : c.code = cc) (hml : c.maxLocals = ls.size) {own : String} {index : Nat} (hown : s.vm.findClass own = some m.cls) (hlink : (Cond.methodLink own index arraycopyName).before args s = true) (hnat : (Cond.native arraycopyName).before args s = true) (hstat : (Cond.static arraycopyName).before args s = true) (hini : (Cond.initialized "java/lang/System").before args s = true)
    (hE : bE D tys s) (hI : bw_I ad n) (hP : va_P D cls3 (bw ad n (fun j => cell j (M j))) H) (hS : va_S (bw_A ad n s.heap.size) s.heap H locs) (q0 q1 t0 : Nat) (h0 : q0 < n) (h1 : q1 < n) {cA : ClassId} {L : Nat} {f g : Nat → Int32} (hf : cell q0 (M q0) = .inl (cA, L, .inl f)) (hg : cell q1 (M q1) = .inl (cA, L, .inl g)) (ht : tys[t0]? = some (cA, .int)) {k : Nat} (hk : k ≤ L) (hk2 : k < 2147483648) (r : ρ) (hr : cell q1 r = .inl (cA, L, .inl (va_cpy f g 0 0 k)))
    (hframes : 1 ≤ R.frames) (hlocals : (rest.map fun v => v.category).sum + (nativeFrameWords "java/lang/System" "arraycopy" 5 + 11) ≤ R.locals) (hdg : decode cc pc = .ok (.invokestatic index, 3))
    (kk : ∀ (M1 : Nat → ρ) (H1 : Heap) (locs1 : List Loc), M1 = va_up M q1 r → va_P D cls3 (bw ad n (fun j => cell j (M1 j))) H1 → va_S (bw_A ad n s.heap.size) s.heap H1 locs1 → W p l e R s m args below meth c H1 locs1 cells slots Q (F0 m (pc + 3) ls rest)) : W p l e R s m args below meth c H locs cells slots Q (F0 m pc ls (.int (nI k) :: .int (nI 0) :: .ref (ad q1) :: .int (nI 0) :: .ref (ad q0) :: rest)) := by
  have z0 : (nI 0).toNatClampNeg = 0 := nI_clamp (by decide)
  have zk : (nI k).toNatClampNeg = k := nI_clamp hk2
  refine va_copyi (ty := .int) hx hb hml hown hlink hnat hstat hini hE.1 hP (bw_D0 hI) hS q0 q1 t0 t0 (bw_at h0 hf) (bw_at h1 hg) ht ht rfl (by decide) (by decide) (nI_pos hk2) (by rw [z0, zk]; omega) (by rw [z0, zk]; omega) (fun _ _ => rfl) hframes hlocals hdg (fun H1 locs1 a1 _ a3 => ?_)
  rw [z0, zk, bw_set h1, ← hr, bw_up] at a1
  exact kk _ H1 locs1 rfl a1 a3
end BCP
/-- WORLD: f steps up at most -/
def jwf (par : Nat → Int32) (loc : Nat → Nat → Int32) : Nat → Nat → Nat → Int32
  | 0, n => loc n
  | f + 1, n => if par n < 0 then loc n else jmat (jwf par loc f (par n).toNatClampNeg) (loc n)
def jworld (par : Nat → Int32) (loc : Nat → Nat → Int32) (n : Nat) : Nat → Int32 := jwf par loc n n
/-- parents come first -/
def pOk (par : Nat → Int32) (N : Nat) : Prop := ∀ n, n < N → par n < 0 ∨ ∃ q, q < n ∧ par n = nI q
theorem jwf_more {par : Nat → Int32} {loc : Nat → Nat → Int32} {N : Nat} (hp : pOk par N) (hN : N < 2147483648) : ∀ f n, n < N → n ≤ f → jwf par loc f n = jwf par loc n n := by
  intro f
  induction f using Nat.strongRecOn with
  | _ f ih =>
    intro n hn hf
    cases f with
    | zero => have : n = 0 := by omega
              subst this; rfl
    | succ f =>
      cases n with
      | zero =>
        rcases hp 0 hn with h | ⟨q, hq, -⟩
        · show (if par 0 < 0 then _ else _) = _
          rw [if_pos h]; rfl
        · omega
      | succ n =>
        show (if par (n + 1) < 0 then _ else _) = (if par (n + 1) < 0 then _ else _)
        rcases hp (n + 1) hn with h | ⟨q, hq, h⟩
        · rw [if_pos h, if_pos h]
        · have hq0 : ¬ par (n + 1) < 0 := by rw [h]; exact nI_pos (by omega)
          rw [if_neg hq0, if_neg hq0, h, nI_clamp (by omega)]
          rw [ih f (by omega) q (by omega) (by omega)]
          by_cases hnf : n = f
          · subst hnf
            rw [ih n (by omega) q (by omega) (by omega)]
          · rw [ih n (by omega) q (by omega) (by omega)]
theorem jworld_root {par : Nat → Int32} {loc : Nat → Nat → Int32} {n : Nat} (h : par n < 0) : jworld par loc n = loc n := by
  unfold jworld
  cases n with
  | zero => rfl
  | succ n =>
    show (if par (n + 1) < 0 then _ else _) = _
    rw [if_pos h]
theorem jworld_at {par : Nat → Int32} {loc : Nat → Nat → Int32} {N n q : Nat} (hp : pOk par N) (hN : N < 2147483648) (hn : n < N) (hq : q < n) (h : par n = nI q) : jworld par loc n = jmat (jworld par loc q) (loc n) := by
  unfold jworld
  cases n with
  | zero => omega
  | succ n =>
    show (if par (n + 1) < 0 then _ else _) = _
    rw [if_neg (by rw [h]; exact nI_pos (by omega)), h, nI_clamp (by omega), jwf_more hp hN n q (by omega) (by omega)]
theorem jworld_congr {par par' : Nat → Int32} {loc loc' : Nat → Nat → Int32} {N : Nat} (hp : pOk par N) (hN : N < 2147483648) (hpar : ∀ n, n < N → par' n = par n) (hloc : ∀ n, n < N → ∀ t, t < 12 → loc' n t = loc n t) : ∀ n, n < N → ∀ t, t < 12 → jworld par' loc' n t = jworld par loc n t := by
  have hp' : pOk par' N := fun n hn => by rw [hpar n hn]; exact hp n hn
  intro n
  induction n using Nat.strongRecOn with
  | _ n ih =>
    intro hn t ht
    rcases hp n hn with h | ⟨q, hq, h⟩
    · rw [jworld_root h, jworld_root (by rw [hpar n hn]; exact h)]
      exact hloc n hn t ht
    · rw [jworld_at hp hN hn hq h, jworld_at hp' hN hn hq (by rw [hpar n hn]; exact h)]
      exact jprod_congr (ih q hq (by omega)) (hloc n hn) (by omega) (by omega)
/-- nobody on the way up is hidden -/
def jof (par hid : Nat → Int32) : Nat → Nat → Bool
  | 0, n => hid n == 0
  | f + 1, n => hid n == 0 && (decide (par n < 0) || jof par hid f (par n).toNatClampNeg)
def jopn (par hid : Nat → Int32) (n : Nat) : Bool := jof par hid n n
theorem jof_more {par hid : Nat → Int32} {N : Nat} (hp : pOk par N) (hN : N < 2147483648) : ∀ f n, n < N → n ≤ f → jof par hid f n = jof par hid n n := by
  intro f
  induction f using Nat.strongRecOn with
  | _ f ih =>
    intro n hn hf
    cases f with
    | zero => have : n = 0 := by omega
              subst this; rfl
    | succ f =>
      cases n with
      | zero =>
        rcases hp 0 hn with h | ⟨q, hq, -⟩
        · show (hid 0 == 0 && (decide (par 0 < 0) || _)) = (hid 0 == 0)
          rw [decide_eq_true h, Bool.true_or, Bool.and_true]
        · omega
      | succ n =>
        show (hid (n + 1) == 0 && (decide (par (n + 1) < 0) || _)) = (hid (n + 1) == 0 && (decide (par (n + 1) < 0) || _))
        rcases hp (n + 1) hn with h | ⟨q, hq, h⟩
        · rw [decide_eq_true h]; rfl
        · rw [h, nI_clamp (by omega), ih f (by omega) q (by omega) (by omega), ih n (by omega) q (by omega) (by omega)]
theorem jopn_root {par hid : Nat → Int32} {n : Nat} (h : par n < 0) : jopn par hid n = (hid n == 0) := by
  unfold jopn
  cases n with
  | zero => rfl
  | succ n =>
    show (hid (n + 1) == 0 && (decide (par (n + 1) < 0) || _)) = _
    rw [decide_eq_true h, Bool.true_or, Bool.and_true]
theorem jopn_at {par hid : Nat → Int32} {N n q : Nat} (hp : pOk par N) (hN : N < 2147483648) (hn : n < N) (hq : q < n) (h : par n = nI q) : jopn par hid n = (hid n == 0 && jopn par hid q) := by
  unfold jopn
  cases n with
  | zero => omega
  | succ n =>
    show (hid (n + 1) == 0 && (decide (par (n + 1) < 0) || _)) = _
    rw [decide_eq_false (by rw [h]; exact nI_pos (by omega)), Bool.false_or, h, nI_clamp (by omega), jof_more hp hN n q (by omega) (by omega)]
/-- the worlds' rows hold WORLD below r -/
def wOk (M : Nat → Nat → Int32) (r : Nat) : Prop := ∀ n, n < r → ∀ t, t < 12 → M (103 + n) t = jworld (M 1) (fun n => M (54 + n)) n t
def rInv (M M1 : Nat → Nat → Int32) (r : Nat) : Prop := (∀ q, (q < 103 ∨ 151 ≤ q) → M1 q = M q) ∧ ∀ n, n < r → ∀ t, t < 12 → M1 (103 + n) t = jworld (M 1) (fun n => M (54 + n)) n t
theorem rInv.root {M M1 M2 : Nat → Nat → Int32} {d : Nat} (h : rInv M M1 d) (hd : d < 48) (hneg : M 1 d < 0) (e : M2 = va_up M1 (103 + d) (va_cpy (M1 (54 + d)) (M1 (103 + d)) 0 0 12)) : rInv M M2 (d + 1) := by
  subst e
  refine ⟨fun q hq => by rw [va_up_ne _ _ (by omega)]; exact h.1 q hq, fun n hn t ht => ?_⟩
  by_cases hnd : n = d
  · subst hnd
    rw [va_up_self, pk_cpy_in (by omega) (by omega), h.1 (54 + n) (by omega), jworld_root hneg]
    show M (54 + n) (0 + (t - 0)) = M (54 + n) t
    rw [Nat.zero_add, Nat.sub_zero]
  · rw [va_up_ne _ _ (by omega)]
    exact h.2 n (by omega) t ht
theorem rInv.at {M M1 M2 : Nat → Nat → Int32} {N d q : Nat} (h : rInv M M1 d) (hp : pOk (M 1) N) (hN : N ≤ 48) (hd : d < N) (hq : q < d) (hpq : M 1 d = nI q) (e : (∀ p, p ≠ 103 + d → M2 p = M1 p) ∧ ∀ i j, i < 3 → j < 4 → M2 (103 + d) (4 * i + j) = jprod (M1 (103 + q)) (M1 (54 + d)) i j) : rInv M M2 (d + 1) := by
  refine ⟨fun p hpp => by rw [e.1 p (by omega)]; exact h.1 p hpp, fun n hn t ht => ?_⟩
  by_cases hnd : n = d
  · subst hnd
    have ht2 : t = 4 * (t / 4) + t % 4 := by omega
    have h1 := e.2 (t / 4) (t % 4) (by omega) (by omega)
    rw [← ht2] at h1
    rw [h1, jworld_at hp (by omega) hd hq hpq, h.1 (54 + n) (by omega)]
    exact jprod_congr (h.2 q hq) (fun _ _ => rfl) (by omega) (by omega)
  · rw [e.1 (103 + n) (by omega)]
    exact h.2 n (by omega) t ht
def oInv (M M1 : Nat → Nat → Int32) (d : Nat) : Prop := (∀ q, q ≠ 153 → M1 q = M q) ∧ ∀ n, n < d → M1 153 n = if jopn (M 1) (M 3) n = true then 1 else 0
theorem oInv.step {M M1 M2 : Nat → Nat → Int32} {d : Nat} {x : Int32} (h : oInv M M1 d) (e : M2 = va_up M1 153 (upd (M1 153) d (vp_nar .boolean x))) (hx : vp_nar .boolean x = if jopn (M 1) (M 3) d = true then 1 else 0) : oInv M M2 (d + 1) := by
  subst e
  refine ⟨fun q hq => by rw [va_up_ne _ _ hq]; exact h.1 q hq, fun n hn => ?_⟩
  rw [va_up_self]
  by_cases hnd : n = d
  · subst hnd
    rw [pk_us, hx]
  · rw [pk_un hnd]
    exact h.2 n (by omega)
/-- drawn before: the class's own word -/
def jbef (kd dp : Nat → Int32) (a b : Nat) : Prop := if kd a = kd b then (if kd a = nI 1 then dp a < dp b else dp b < dp a) else kd a = nI 1

theorem nI_max {a b : Nat} (ha : a < 2147483648) (hb : b < 2147483648) : (if nI a < nI b then nI b else nI a) = nI (max a b) := by
  by_cases h : a < b
  · rw [if_pos ((nI_ltI ha hb).mpr h), Nat.max_eq_right (by omega)]
  · rw [if_neg (fun q => h ((nI_ltI ha hb).mp q)), Nat.max_eq_left (by omega)]
theorem nI_min {a b : Nat} (ha : a < 2147483648) (hb : b < 2147483648) : (if nI b < nI a then nI b else nI a) = nI (min a b) := by
  by_cases h : b < a
  · rw [if_pos ((nI_ltI hb ha).mpr h), Nat.min_eq_right (by omega)]
  · rw [if_neg (fun q => h ((nI_ltI hb ha).mp q)), Nat.min_eq_left (by omega)]
theorem ready_done {M M1 M2 : Nat → Nat → Int32} {r0 u d N : Nat} (hp : pOk (M 1) N) (hN : N ≤ 48) (hr : max r0 u ≤ N) (h : rInv M M1 d) (hd : d = max r0 u) (e : M2 = va_up M1 0 (upd (M1 0) 7 (nI (max r0 u)))) : (∀ q, 0 < q → (q < 103 ∨ 151 ≤ q) → M2 q = M q) ∧ (∀ t, t ≠ 7 → M2 0 t = M 0 t) ∧ M2 0 7 = nI (max r0 u) ∧ wOk M2 (max r0 u) := by
  subst e; subst hd
  refine ⟨fun q h0 hq => by rw [va_up_ne _ _ (by omega)]; exact h.1 q hq, fun t ht => by rw [va_up_self, pk_un ht, h.1 0 (by omega)], by rw [va_up_self, pk_us], fun n hn t ht => ?_⟩
  rw [va_up_ne _ _ (by omega), h.2 n hn t ht]
  refine (jworld_congr hp (by omega) (fun k hk => ?_) (fun k hk t ht => ?_) n (by omega) t ht).symm
  · rw [va_up_ne _ _ (by omega), h.1 1 (by omega)]
  · show va_up M1 0 _ (54 + k) t = M (54 + k) t
    rw [va_up_ne _ _ (by omega), h.1 (54 + k) (by omega)]

set_option maxHeartbeats 4000000 in
set_option maxRecDepth 100000 in
/-- WORLD of the nodes below u -/
theorem kS_readyWorlds (l : Launch) (D : va_G) (cs : Nat → ClassId) (ad : Nat → Nat) (hI : bw_I ad 162) (M : Nat → Nat → Int32) (sz : Nat) (N u r0 : Nat) (hN : N ≤ 48) (hu : u ≤ N) (hr0 : r0 ≤ N) (hp : pOk (M 1) N) (hw0 : M 0 7 = nI r0) (hw : wOk M r0)  : Met l yS_readyWorlds (wc yS_readyWorlds cS_readyWorlds 4 none) ({ frames := 4, cells := 0, slots := 0, locals := 88 } : Room) (va_Pc [.ref (ad 0), .int (nI u)] (sP D cs ad M sz)) (bQv D ad 162 (sc_cell cs ad) sz (fun M1 => (∀ q, 0 < q → (q < 103 ∨ 151 ≤ q) → M1 q = M q) ∧ (∀ t, t ≠ 7 → M1 0 t = M 0 t) ∧ M1 0 7 = nI (max r0 u) ∧ wOk M1 (max r0 u))) 0 0 (bw_A ad 162 sz) := by
  refine Met.ofW (cc := cS_readyWorlds) (maxL := 4) (ret := none) (by decide +kernel) rfl ?_
  intro p e s m args below meth c s₁ B hml hv
  obtain ⟨rfl, hsz, hP, hE⟩ := hv
  subst hsz
  have hx := B.exec
  have hb := B.bytes
  have hr := B.returns
  have hts : ∀ w9 ∈ ws_all, w9.before ([.ref (ad 0), .int (nI u)] : List Value).toArray s = true := fun w9 h => atoms_spec (ws := (wc yS_readyWorlds cS_readyWorlds 4 none)) B.pre w9 (List.mem_cons_of_mem _ h)
  have hown : s.vm.findClass RS = some m.cls := findClass_of_methodNamed B.named
  have hlocks := B.notSynchronized
  have hS : va_S (bw_A ad 162 s.heap.size) s.heap s.heap [] := va_S.rf
  have hl := lv_entry ([.ref (ad 0), .int (nI u)]) (n := 4) (Nat.le_of_ble_eq_true rfl)
  rw [lg_entry_eq]
  generalize (lg_sl ([.ref (ad 0), .int (nI u)]) ++ List.replicate (4 - (lg_sl ([.ref (ad 0), .int (nI u)])).length) Slot.unset).toArray = ls at hl ⊢
  have hl : lv_has ls 4 [(0, .ref (ad 0)), (1, .int (nI u))] := hl
  refine lv_aload_n hx hb dS_readyWorlds_0 rfl (lv_at hl 0 rfl) ?_
  refine bw_get (own := RS) (ci := 1) (C := RS) (T := TS) (N := 14) (v := .int (M 0 7)) hx hb hts inS hown hE hP 0 (by decide) rfl rfl 7 (by decide) w_95 rfl rfl dS_readyWorlds_1 ?_
  refine ln_asi (nI r0) (by exact hw0) ?_
  refine lv_istore_n (lv' := [(2, .int (nI r0)), (0, .ref (ad 0)), (1, .int (nI u))]) hx hb dS_readyWorlds_4 rfl hl (by decide) rfl (fun ls hl => ?_)
  have loop : ∀ k : Nat, (∀ (d : Nat)  (M1 : Nat → Nat → Int32) (H : Heap) (locs : List Loc) (ls : Array Slot), d ≤ 48 → r0 ≤ d ∧ (d ≤ u ∨ d ≤ r0) → rInv M M1 d → u - d < k → va_P D cls3 (bw ad 162 (fun j => sc_cell cs ad j (M1 j))) H → va_S (bw_A ad 162 s.heap.size) s.heap H locs → lv_has ls 4 [(2, .int (nI d)), (0, .ref (ad 0)), (1, .int (nI u))] → W p l e (headSpec (wc yS_readyWorlds cS_readyWorlds 4 none) ({ frames := 4, cells := 0, slots := 0, locals := 88 } : Room)).room s m ([.ref (ad 0), .int (nI u)] : List Value).toArray below meth c H locs 0 0 (MQ below (bQv D ad 162 (sc_cell cs ad) s.heap.size (fun M1 => (∀ q, 0 < q → (q < 103 ∨ 151 ≤ q) → M1 q = M q) ∧ (∀ t, t ≠ 7 → M1 0 t = M 0 t) ∧ M1 0 7 = nI (max r0 u) ∧ wOk M1 (max r0 u))) ([.ref (ad 0), .int (nI u)] : List Value).toArray s 0 0 (bw_A ad 162 s.heap.size)) (F0 m 5 ls [])) := by
    intro k
    induction k with
    | zero => exact by intros; omega
    | succ k ih =>
      intro d  M1 H locs ls hd hd2 hinv hmu hP hS hl
      refine lv_iload_n hx hb dS_readyWorlds_5 rfl (lv_at hl 0 rfl) ?_
      refine lv_iload_n hx hb dS_readyWorlds_6 rfl (lv_at hl 2 rfl) ?_
      refine ln_icmp_ge (tgt := 70) hx hb dS_readyWorlds_7 (by decide) (by omega) (by omega) (fun c_7 => ?_) (fun c_7 => ?_)
      · skip
        refine lv_aload_n hx hb dS_readyWorlds_70 rfl (lv_at hl 1 rfl) ?_
        refine lv_aload_n hx hb dS_readyWorlds_71 rfl (lv_at hl 1 rfl) ?_
        refine bw_get (own := RS) (ci := 1) (C := RS) (T := TS) (N := 14) (v := .int (M1 0 7)) hx hb hts inS hown hE hP 0 (by decide) rfl rfl 7 (by decide) w_95 rfl rfl dS_readyWorlds_72 ?_
        refine lv_iload_n hx hb dS_readyWorlds_75 rfl (lv_at hl 2 rfl) ?_
        refine va_mmax (own := RS) (index := 140) hx hb (hml.trans hl.1.symm) hown (hts _ w_209) (hts _ w_210) (hts _ w_3) (hts _ w_211) (by decide) (Nat.le_of_ble_eq_true rfl) (by decide) (by decide) dS_readyWorlds_76 ?_
        refine ln_asi (nI (max r0 u)) (by rw [hinv.1 0 (by omega), hw0]; exact nI_max (by omega) (by omega)) ?_
        refine bw_put (own := RS) (ci := 1) (C := RS) (T := TS) (N := 14) (v := .int (nI (max r0 u))) (ty := .int) hx hb hts inS tyS tyS_ok nmS hown hE hI hP hS 0 (by decide) rfl rfl 7 (by decide) w_95 rfl rfl (upd (M1 0) 7 (nI (max r0 u))) rfl (by decide +kernel) rfl rfl (Nat.le_of_ble_eq_true rfl) dS_readyWorlds_79 (fun M_1 H locs eM_1 hP hS => ?_)
        exact W.vret hx hb hr (fun t ht hW => ⟨⟨M_1, rfl, ready_done hp hN (by omega) hinv (by omega) eM_1, by show va_P _ _ _ t.heap; rw [ht]; exact hP⟩, hS.F ht⟩) hS.2.2 dS_readyWorlds_82
      · skip
        refine lv_aload_n hx hb dS_readyWorlds_10 rfl (lv_at hl 1 rfl) ?_
        refine bw_get (own := RS) (ci := 1) (C := RS) (T := TS) (N := 14) (v := .ref (ad 1)) hx hb hts inS hown hE hP 0 (by decide) rfl rfl 1 (by decide) w_89 rfl rfl dS_readyWorlds_11 ?_
        refine lv_iload_n hx hb dS_readyWorlds_14 rfl (lv_at hl 0 rfl) ?_
        refine ln_iald (L := 48) (g := (M1 1)) hx hb hE hP 1 0 (by decide) (rfl) rfl (by omega) (by decide) dS_readyWorlds_15 ?_
        have hpd := hp d (by omega)
        rcases hpd with hneg | ⟨q, hq, hpq⟩
        · skip
          refine lv_istore_n (lv' := [(3, .int (M1 1 d)), (2, .int (nI d)), (0, .ref (ad 0)), (1, .int (nI u))]) hx hb dS_readyWorlds_16 rfl hl (by decide) rfl (fun ls hl => ?_)
          refine lv_iload_n hx hb dS_readyWorlds_17 rfl (lv_at hl 0 rfl) ?_
          refine lv_if_lt (tgt := 45) hx hb dS_readyWorlds_18 (by decide) (fun c_18 => ?_) (fun c_18 => ?_)
          · skip
            refine lv_aload_n hx hb dS_readyWorlds_45 rfl (lv_at hl 2 rfl) ?_
            refine bw_get (own := RS) (ci := 1) (C := RS) (T := TS) (N := 14) (v := .ref (ad 53)) hx hb hts inS hown hE hP 0 (by decide) rfl rfl 5 (by decide) w_93 rfl rfl dS_readyWorlds_46 ?_
            refine lv_iload_n hx hb dS_readyWorlds_49 rfl (lv_at hl 1 rfl) ?_
            refine ln_aald (L := 48) hx hb hE hP 53 2 (by decide) (rfl) rfl (by omega) (by decide) (a := ad (54 + d)) (by first | rfl | (show (if _ then _ else _) = _; rw [if_pos (by omega)])) dS_readyWorlds_50 ?_
            refine lv_iconst (v := nI 0) hx hb dS_readyWorlds_51 (by decide) ?_
            refine lv_aload_n hx hb dS_readyWorlds_52 rfl (lv_at hl 2 rfl) ?_
            refine bw_get (own := RS) (ci := 1) (C := RS) (T := TS) (N := 14) (v := .ref (ad 102)) hx hb hts inS hown hE hP 0 (by decide) rfl rfl 6 (by decide) w_94 rfl rfl dS_readyWorlds_53 ?_
            refine lv_iload_n hx hb dS_readyWorlds_56 rfl (lv_at hl 1 rfl) ?_
            refine ln_aald (L := 48) hx hb hE hP 102 2 (by decide) (rfl) rfl (by omega) (by decide) (a := ad (103 + d)) (by first | rfl | (show (if _ then _ else _) = _; rw [if_pos (by omega)])) dS_readyWorlds_57 ?_
            refine lv_iconst (v := nI 0) hx hb dS_readyWorlds_58 (by decide) ?_
            refine lv_bipush (v := nI 12) hx hb dS_readyWorlds_59 (by decide) ?_
            refine bw_copyi (own := RS) (index := 134) (L := 12) hx hb (hml.trans hl.1.symm) hown (hts _ w_206) (hts _ w_208) (hts _ w_207) (hts _ w_9) hE hI hP hS (54 + d) (103 + d) 0 (by omega) (by omega) (sc_row54 (by omega)) (sc_row103 (by omega)) rfl (by decide) (by decide) (va_cpy (M1 (54 + d)) (M1 (103 + d)) 0 0 12) (sc_row103 (by omega)) (by decide) (by decide) dS_readyWorlds_61 (fun M_2 H locs eM_2 hP hS => ?_)
            refine lv_iinc (v := nI (d + 1)) (lv' := [(2, .int (nI (d + 1))), (3, .int (M1 1 d)), (0, .ref (ad 0)), (1, .int (nI u))]) hx hb dS_readyWorlds_64 hl (k := 1) rfl (nI_add d 1) (by decide) rfl (fun ls hl => ?_)
            refine lv_goto (tgt := 5) hx hb dS_readyWorlds_67 (by decide) ?_
            exact ih (d + 1)  M_2 H locs ls (by omega) (by omega) (hinv.root (by omega) hneg eM_2) (by omega) hP hS (lv_sub hl [0, 2, 3] rfl)
          · skip
            exact absurd (by rw [hinv.1 1 (by omega)]; exact hneg) c_18
        · skip
          refine ln_asi (nI q) (by rw [hinv.1 1 (by omega)]; exact hpq) ?_
          refine lv_istore_n (lv' := [(3, .int (nI q)), (2, .int (nI d)), (0, .ref (ad 0)), (1, .int (nI u))]) hx hb dS_readyWorlds_16 rfl hl (by decide) rfl (fun ls hl => ?_)
          refine lv_iload_n hx hb dS_readyWorlds_17 rfl (lv_at hl 0 rfl) ?_
          refine ln_if_lt (tgt := 45) hx hb dS_readyWorlds_18 (by decide) (by omega) ?_
          refine lv_aload_n hx hb dS_readyWorlds_21 rfl (lv_at hl 2 rfl) ?_
          refine bw_get (own := RS) (ci := 1) (C := RS) (T := TS) (N := 14) (v := .ref (ad 102)) hx hb hts inS hown hE hP 0 (by decide) rfl rfl 6 (by decide) w_94 rfl rfl dS_readyWorlds_22 ?_
          refine lv_iload_n hx hb dS_readyWorlds_25 rfl (lv_at hl 0 rfl) ?_
          refine ln_aald (L := 48) hx hb hE hP 102 2 (by decide) (rfl) rfl (by omega) (by decide) (a := ad (103 + q)) (by first | rfl | (show (if _ then _ else _) = _; rw [if_pos (by omega)])) dS_readyWorlds_26 ?_
          refine lv_aload_n hx hb dS_readyWorlds_27 rfl (lv_at hl 2 rfl) ?_
          refine bw_get (own := RS) (ci := 1) (C := RS) (T := TS) (N := 14) (v := .ref (ad 53)) hx hb hts inS hown hE hP 0 (by decide) rfl rfl 5 (by decide) w_93 rfl rfl dS_readyWorlds_28 ?_
          refine lv_iload_n hx hb dS_readyWorlds_31 rfl (lv_at hl 1 rfl) ?_
          refine ln_aald (L := 48) hx hb hE hP 53 2 (by decide) (rfl) rfl (by omega) (by decide) (a := ad (54 + d)) (by first | rfl | (show (if _ then _ else _) = _; rw [if_pos (by omega)])) dS_readyWorlds_32 ?_
          refine lv_aload_n hx hb dS_readyWorlds_33 rfl (lv_at hl 2 rfl) ?_
          refine bw_get (own := RS) (ci := 1) (C := RS) (T := TS) (N := 14) (v := .ref (ad 102)) hx hb hts inS hown hE hP 0 (by decide) rfl rfl 6 (by decide) w_94 rfl rfl dS_readyWorlds_34 ?_
          refine lv_iload_n hx hb dS_readyWorlds_37 rfl (lv_at hl 1 rfl) ?_
          refine ln_aald (L := 48) hx hb hE hP 102 2 (by decide) (rfl) rfl (by omega) (by decide) (a := ad (103 + d)) (by first | rfl | (show (if _ then _ else _) = _; rw [if_pos (by omega)])) dS_readyWorlds_38 ?_
          refine bc_callv (bc_runS (own := RS) (As := [.ref (ad (103 + q)), .ref (ad (54 + d)), .ref (ad (103 + d))]) (rest := []) hx hb (hml.trans hl.1.symm) hown hts (kS_multiply l D cs ad hI M1 H.size (103 + q) (54 + d) (103 + d) (by omega) (by omega) (by omega) (fun _ => sc_row103 (by omega)) (fun _ => sc_row54 (by omega)) (fun _ => sc_row103 (by omega)) (by omega) (by omega)) w_70 w_205 w_69 w_1 hd_S_multiply rfl ⟨rfl, rfl⟩ ⟨Nat.le_of_ble_eq_true rfl, Nat.le_of_ble_eq_true rfl⟩ (fun _ _ _ _ h => h.calling) (fun U hU hW => ⟨by rw [hU], by rw [hU]; exact hP, hE.warm hW⟩) rfl (Nat.le_of_ble_eq_true rfl) dS_readyWorlds_39 ⟨Nat.le_of_ble_eq_true rfl, Nat.le_of_ble_eq_true rfl⟩) hS (fun M_3 H locs hr_39 hP hS => ?_)
          refine lv_goto (tgt := 64) hx hb dS_readyWorlds_42 (by decide) ?_
          refine lv_iinc (v := nI (d + 1)) (lv' := [(2, .int (nI (d + 1))), (3, .int (nI q)), (0, .ref (ad 0)), (1, .int (nI u))]) hx hb dS_readyWorlds_64 hl (k := 1) rfl (nI_add d 1) (by decide) rfl (fun ls hl => ?_)
          refine lv_goto (tgt := 5) hx hb dS_readyWorlds_67 (by decide) ?_
          exact ih (d + 1)  M_3 H locs ls (by omega) (by omega) (hinv.at hp hN (by omega) hq hpq hr_39) (by omega) hP hS (lv_sub hl [0, 2, 3] rfl)
  exact (loop 100000) r0  M s.heap [] ls (by omega) (by omega) (⟨fun _ _ => rfl, hw⟩) (by omega) hP hS (lv_sub hl [0, 1, 2] rfl)

theorem open_f {par hid : Nat → Int32} {d : Nat} (h : ¬ hid d = 0) : vp_nar .boolean (nI 0) = if jopn par hid d = true then 1 else 0 := by
  have : jopn par hid d = false := by
    unfold jopn
    cases d with
    | zero => show (hid 0 == 0) = false; rw [beq_eq_false_iff_ne]; exact h
    | succ n => show (hid (n + 1) == 0 && _) = false; rw [beq_eq_false_iff_ne.mpr h]; rfl
  rw [this]; rfl
theorem open_r {par hid : Nat → Int32} {d : Nat} (hneg : par d < 0) (h : hid d = 0) : vp_nar .boolean (nI 1) = if jopn par hid d = true then 1 else 0 := by
  rw [jopn_root hneg, h]; rfl
theorem open_1 {par hid : Nat → Int32} {N d q : Nat} {y : Int32} (hp : pOk par N) (hN : N < 2147483648) (hd : d < N) (hq : q < d) (hpq : par d = nI q) (h : hid d = 0) (hy : y = if jopn par hid q = true then 1 else 0) (hy0 : ¬ y = 0) : vp_nar .boolean (nI 1) = if jopn par hid d = true then 1 else 0 := by
  have h1 : jopn par hid q = true := by
    cases hc : jopn par hid q with
    | true => rfl
    | false => rw [hc] at hy; exact absurd hy hy0
  rw [jopn_at hp hN hd hq hpq, h, h1]; rfl
theorem open_0 {par hid : Nat → Int32} {N d q : Nat} {y : Int32} (hp : pOk par N) (hN : N < 2147483648) (hd : d < N) (hq : q < d) (hpq : par d = nI q) (hy : y = if jopn par hid q = true then 1 else 0) (hy0 : y = 0) : vp_nar .boolean (nI 0) = if jopn par hid d = true then 1 else 0 := by
  have h1 : jopn par hid q = false := by
    cases hc : jopn par hid q with
    | false => rfl
    | true => rw [hc, hy0] at hy; exact absurd hy (by decide)
  rw [jopn_at hp hN hd hq hpq, h1, Bool.and_false]; rfl

set_option maxHeartbeats 4000000 in
set_option maxRecDepth 100000 in
/-- who has nobody hidden above -/
theorem kS_markOpen (l : Launch) (D : va_G) (cs : Nat → ClassId) (ad : Nat → Nat) (hI : bw_I ad 162) (M : Nat → Nat → Int32) (sz : Nat) (N : Nat) (hN : N ≤ 48) (hn : M 0 0 = nI N) (hp : pOk (M 1) N)  : Met l yS_markOpen (wc yS_markOpen cS_markOpen 3 none) ({ frames := 0, cells := 0, slots := 0, locals := 0 } : Room) (va_Pc [.ref (ad 0)] (sP D cs ad M sz)) (bQv D ad 162 (sc_cell cs ad) sz (fun M1 => oInv M M1 N)) 0 0 (bw_A ad 162 sz) := by
  refine Met.ofW (cc := cS_markOpen) (maxL := 3) (ret := none) (by decide +kernel) rfl ?_
  intro p e s m args below meth c s₁ B hml hv
  obtain ⟨rfl, hsz, hP, hE⟩ := hv
  subst hsz
  have hx := B.exec
  have hb := B.bytes
  have hr := B.returns
  have hts : ∀ w9 ∈ ws_all, w9.before ([.ref (ad 0)] : List Value).toArray s = true := fun w9 h => atoms_spec (ws := (wc yS_markOpen cS_markOpen 3 none)) B.pre w9 (List.mem_cons_of_mem _ h)
  have hown : s.vm.findClass RS = some m.cls := findClass_of_methodNamed B.named
  have hlocks := B.notSynchronized
  have hS : va_S (bw_A ad 162 s.heap.size) s.heap s.heap [] := va_S.rf
  have hl := lv_entry ([.ref (ad 0)]) (n := 3) (Nat.le_of_ble_eq_true rfl)
  rw [lg_entry_eq]
  generalize (lg_sl ([.ref (ad 0)]) ++ List.replicate (3 - (lg_sl ([.ref (ad 0)])).length) Slot.unset).toArray = ls at hl ⊢
  have hl : lv_has ls 3 [(0, .ref (ad 0))] := hl
  refine lv_iconst (v := nI 0) hx hb dS_markOpen_0 (by decide) ?_
  refine lv_istore_n (lv' := [(1, .int (nI 0)), (0, .ref (ad 0))]) hx hb dS_markOpen_1 rfl hl (by decide) rfl (fun ls hl => ?_)
  have loop : ∀ k : Nat, (∀ (d : Nat)  (M1 : Nat → Nat → Int32) (H : Heap) (locs : List Loc) (ls : Array Slot), d ≤ N → oInv M M1 d → N - d < k → va_P D cls3 (bw ad 162 (fun j => sc_cell cs ad j (M1 j))) H → va_S (bw_A ad 162 s.heap.size) s.heap H locs → lv_has ls 3 [(1, .int (nI d)), (0, .ref (ad 0))] → W p l e (headSpec (wc yS_markOpen cS_markOpen 3 none) ({ frames := 0, cells := 0, slots := 0, locals := 0 } : Room)).room s m ([.ref (ad 0)] : List Value).toArray below meth c H locs 0 0 (MQ below (bQv D ad 162 (sc_cell cs ad) s.heap.size (fun M1 => oInv M M1 N)) ([.ref (ad 0)] : List Value).toArray s 0 0 (bw_A ad 162 s.heap.size)) (F0 m 2 ls [])) := by
    intro k
    induction k with
    | zero => exact by intros; omega
    | succ k ih =>
      intro d  M1 H locs ls hd hinv hmu hP hS hl
      refine lv_iload_n hx hb dS_markOpen_2 rfl (lv_at hl 0 rfl) ?_
      refine lv_aload_n hx hb dS_markOpen_3 rfl (lv_at hl 1 rfl) ?_
      refine bw_get (own := RS) (ci := 1) (C := RS) (T := TS) (N := 14) (v := .int (M1 0 0)) hx hb hts inS hown hE hP 0 (by decide) rfl rfl 0 (by decide) w_88 rfl rfl dS_markOpen_4 ?_
      refine ln_asi (nI N) (by rw [hinv.1 0 (by decide)]; exact hn) ?_
      refine ln_icmp_ge (tgt := 56) hx hb dS_markOpen_7 (by decide) (by omega) (by omega) (fun c_7 => ?_) (fun c_7 => ?_)
      · skip
        exact W.vret hx hb hr (fun t ht hW => ⟨⟨M1, rfl, by rw [show N = d by omega]; exact hinv, by show va_P _ _ _ t.heap; rw [ht]; exact hP⟩, hS.F ht⟩) hS.2.2 dS_markOpen_56
      · skip
        refine lv_aload_n hx hb dS_markOpen_10 rfl (lv_at hl 1 rfl) ?_
        refine bw_get (own := RS) (ci := 1) (C := RS) (T := TS) (N := 14) (v := .ref (ad 1)) hx hb hts inS hown hE hP 0 (by decide) rfl rfl 1 (by decide) w_89 rfl rfl dS_markOpen_11 ?_
        refine lv_iload_n hx hb dS_markOpen_14 rfl (lv_at hl 0 rfl) ?_
        refine ln_iald (L := 48) (g := (M1 1)) hx hb hE hP 1 0 (by decide) (rfl) rfl (by omega) (by decide) dS_markOpen_15 ?_
        have hpd := hp d (by omega)
        rcases hpd with hneg | ⟨q, hq, hpq⟩
        · skip
          refine lv_istore_n (lv' := [(2, .int (M1 1 d)), (1, .int (nI d)), (0, .ref (ad 0))]) hx hb dS_markOpen_16 rfl hl (by decide) rfl (fun ls hl => ?_)
          refine lv_aload_n hx hb dS_markOpen_17 rfl (lv_at hl 2 rfl) ?_
          refine bw_get (own := RS) (ci := 1) (C := RS) (T := TS) (N := 14) (v := .ref (ad 153)) hx hb hts inS hown hE hP 0 (by decide) rfl rfl 10 (by decide) w_98 rfl rfl dS_markOpen_18 ?_
          refine lv_iload_n hx hb dS_markOpen_21 rfl (lv_at hl 1 rfl) ?_
          refine lv_aload_n hx hb dS_markOpen_22 rfl (lv_at hl 2 rfl) ?_
          refine bw_get (own := RS) (ci := 1) (C := RS) (T := TS) (N := 14) (v := .ref (ad 3)) hx hb hts inS hown hE hP 0 (by decide) rfl rfl 3 (by decide) w_91 rfl rfl dS_markOpen_23 ?_
          refine lv_iload_n hx hb dS_markOpen_26 rfl (lv_at hl 1 rfl) ?_
          refine ln_zald (L := 48) (g := (M1 3)) hx hb hE hP 3 1 (by decide) (rfl) rfl (by omega) (by decide) dS_markOpen_27 ?_
          refine lv_if_ne (tgt := 48) hx hb dS_markOpen_28 (by decide) (fun c_28 => ?_) (fun c_28 => ?_)
          · skip
            refine lv_iconst (v := nI 0) hx hb dS_markOpen_48 (by decide) ?_
            refine ln_zast (L := 48) hx hb hE hI hP hS 153 1 (by decide) (rfl) rfl (by omega) (by decide) (upd (M1 153) d (vp_nar .boolean (nI 0))) (rfl) dS_markOpen_49 (fun M_1 H locs eM_1 hP hS => ?_)
            refine lv_iinc (v := nI (d + 1)) (lv' := [(1, .int (nI (d + 1))), (2, .int (M1 1 d)), (0, .ref (ad 0))]) hx hb dS_markOpen_50 hl (k := 1) rfl (nI_add d 1) (by decide) rfl (fun ls hl => ?_)
            refine lv_goto (tgt := 2) hx hb dS_markOpen_53 (by decide) ?_
            exact ih (d + 1)  M_1 H locs ls (by omega) (hinv.step eM_1 (open_f (by rw [← hinv.1 3 (by decide)]; exact c_28))) (by omega) hP hS (lv_sub hl [0, 2] rfl)
          · skip
            refine lv_iload_n hx hb dS_markOpen_31 rfl (lv_at hl 0 rfl) ?_
            refine lv_if_lt (tgt := 44) hx hb dS_markOpen_32 (by decide) (fun c_32 => ?_) (fun c_32 => ?_)
            · skip
              refine lv_iconst (v := nI 1) hx hb dS_markOpen_44 (by decide) ?_
              refine lv_goto (tgt := 49) hx hb dS_markOpen_45 (by decide) ?_
              refine ln_zast (L := 48) hx hb hE hI hP hS 153 1 (by decide) (rfl) rfl (by omega) (by decide) (upd (M1 153) d (vp_nar .boolean (nI 1))) (rfl) dS_markOpen_49 (fun M_2 H locs eM_2 hP hS => ?_)
              refine lv_iinc (v := nI (d + 1)) (lv' := [(1, .int (nI (d + 1))), (2, .int (M1 1 d)), (0, .ref (ad 0))]) hx hb dS_markOpen_50 hl (k := 1) rfl (nI_add d 1) (by decide) rfl (fun ls hl => ?_)
              refine lv_goto (tgt := 2) hx hb dS_markOpen_53 (by decide) ?_
              exact ih (d + 1)  M_2 H locs ls (by omega) (hinv.step eM_2 (open_r hneg (by rw [← hinv.1 3 (by decide)]; exact c_28))) (by omega) hP hS (lv_sub hl [0, 2] rfl)
            · skip
              exact absurd (by rw [hinv.1 1 (by decide)]; exact hneg) c_32
        · skip
          refine ln_asi (nI q) (by rw [hinv.1 1 (by decide)]; exact hpq) ?_
          refine lv_istore_n (lv' := [(2, .int (nI q)), (1, .int (nI d)), (0, .ref (ad 0))]) hx hb dS_markOpen_16 rfl hl (by decide) rfl (fun ls hl => ?_)
          refine lv_aload_n hx hb dS_markOpen_17 rfl (lv_at hl 2 rfl) ?_
          refine bw_get (own := RS) (ci := 1) (C := RS) (T := TS) (N := 14) (v := .ref (ad 153)) hx hb hts inS hown hE hP 0 (by decide) rfl rfl 10 (by decide) w_98 rfl rfl dS_markOpen_18 ?_
          refine lv_iload_n hx hb dS_markOpen_21 rfl (lv_at hl 1 rfl) ?_
          refine lv_aload_n hx hb dS_markOpen_22 rfl (lv_at hl 2 rfl) ?_
          refine bw_get (own := RS) (ci := 1) (C := RS) (T := TS) (N := 14) (v := .ref (ad 3)) hx hb hts inS hown hE hP 0 (by decide) rfl rfl 3 (by decide) w_91 rfl rfl dS_markOpen_23 ?_
          refine lv_iload_n hx hb dS_markOpen_26 rfl (lv_at hl 1 rfl) ?_
          refine ln_zald (L := 48) (g := (M1 3)) hx hb hE hP 3 1 (by decide) (rfl) rfl (by omega) (by decide) dS_markOpen_27 ?_
          refine lv_if_ne (tgt := 48) hx hb dS_markOpen_28 (by decide) (fun c_28 => ?_) (fun c_28 => ?_)
          · skip
            refine lv_iconst (v := nI 0) hx hb dS_markOpen_48 (by decide) ?_
            refine ln_zast (L := 48) hx hb hE hI hP hS 153 1 (by decide) (rfl) rfl (by omega) (by decide) (upd (M1 153) d (vp_nar .boolean (nI 0))) (rfl) dS_markOpen_49 (fun M_3 H locs eM_3 hP hS => ?_)
            refine lv_iinc (v := nI (d + 1)) (lv' := [(1, .int (nI (d + 1))), (2, .int (nI q)), (0, .ref (ad 0))]) hx hb dS_markOpen_50 hl (k := 1) rfl (nI_add d 1) (by decide) rfl (fun ls hl => ?_)
            refine lv_goto (tgt := 2) hx hb dS_markOpen_53 (by decide) ?_
            exact ih (d + 1)  M_3 H locs ls (by omega) (hinv.step eM_3 (open_f (by rw [← hinv.1 3 (by decide)]; exact c_28))) (by omega) hP hS (lv_sub hl [0, 2] rfl)
          · skip
            refine lv_iload_n hx hb dS_markOpen_31 rfl (lv_at hl 0 rfl) ?_
            refine ln_if_lt (tgt := 44) hx hb dS_markOpen_32 (by decide) (by omega) ?_
            refine lv_aload_n hx hb dS_markOpen_35 rfl (lv_at hl 2 rfl) ?_
            refine bw_get (own := RS) (ci := 1) (C := RS) (T := TS) (N := 14) (v := .ref (ad 153)) hx hb hts inS hown hE hP 0 (by decide) rfl rfl 10 (by decide) w_98 rfl rfl dS_markOpen_36 ?_
            refine lv_iload_n hx hb dS_markOpen_39 rfl (lv_at hl 0 rfl) ?_
            refine ln_zald (L := 48) (g := (M1 153)) hx hb hE hP 153 1 (by decide) (rfl) rfl (by omega) (by decide) dS_markOpen_40 ?_
            refine lv_if_eq (tgt := 48) hx hb dS_markOpen_41 (by decide) (fun c_41 => ?_) (fun c_41 => ?_)
            · skip
              refine lv_iconst (v := nI 0) hx hb dS_markOpen_48 (by decide) ?_
              refine ln_zast (L := 48) hx hb hE hI hP hS 153 1 (by decide) (rfl) rfl (by omega) (by decide) (upd (M1 153) d (vp_nar .boolean (nI 0))) (rfl) dS_markOpen_49 (fun M_4 H locs eM_4 hP hS => ?_)
              refine lv_iinc (v := nI (d + 1)) (lv' := [(1, .int (nI (d + 1))), (2, .int (nI q)), (0, .ref (ad 0))]) hx hb dS_markOpen_50 hl (k := 1) rfl (nI_add d 1) (by decide) rfl (fun ls hl => ?_)
              refine lv_goto (tgt := 2) hx hb dS_markOpen_53 (by decide) ?_
              exact ih (d + 1)  M_4 H locs ls (by omega) (hinv.step eM_4 (open_0 hp (by omega) (by omega) hq hpq (hinv.2 q hq) c_41)) (by omega) hP hS (lv_sub hl [0, 2] rfl)
            · skip
              refine lv_iconst (v := nI 1) hx hb dS_markOpen_44 (by decide) ?_
              refine lv_goto (tgt := 49) hx hb dS_markOpen_45 (by decide) ?_
              refine ln_zast (L := 48) hx hb hE hI hP hS 153 1 (by decide) (rfl) rfl (by omega) (by decide) (upd (M1 153) d (vp_nar .boolean (nI 1))) (rfl) dS_markOpen_49 (fun M_5 H locs eM_5 hP hS => ?_)
              refine lv_iinc (v := nI (d + 1)) (lv' := [(1, .int (nI (d + 1))), (2, .int (nI q)), (0, .ref (ad 0))]) hx hb dS_markOpen_50 hl (k := 1) rfl (nI_add d 1) (by decide) rfl (fun ls hl => ?_)
              refine lv_goto (tgt := 2) hx hb dS_markOpen_53 (by decide) ?_
              exact ih (d + 1)  M_5 H locs ls (by omega) (hinv.step eM_5 (open_1 hp (by omega) (by omega) hq hpq (by rw [← hinv.1 3 (by decide)]; exact c_28) (hinv.2 q hq) c_41)) (by omega) hP hS (lv_sub hl [0, 2] rfl)
  exact (loop 100000) 0  M s.heap [] ls (by omega) (⟨fun _ _ => rfl, fun n hn => by omega⟩) (by omega) hP hS (lv_sub hl [0, 1] rfl)

set_option maxHeartbeats 4000000 in
set_option maxRecDepth 100000 in
theorem kS_isSeen (l : Launch) (D : va_G) (cs : Nat → ClassId) (ad : Nat → Nat) (hI : bw_I ad 162) (M : Nat → Nat → Int32) (sz : Nat) (d : Nat) (hd : d < 48)  : Met l yS_isSeen (wc yS_isSeen cS_isSeen 2 (some .boolean)) ({ frames := 0, cells := 0, slots := 0, locals := 0 } : Room) (va_Pc [.ref (ad 0), .int (nI d)] (sP D cs ad M sz)) (vp_Si (jb (¬ M 2 d = 0 ∧ ¬ M 153 d = 0))) 0 0 (fun _ => False) := by
  refine Met.ofW (cc := cS_isSeen) (maxL := 2) (ret := (some .boolean)) (by decide +kernel) rfl ?_
  intro p e s m args below meth c s₁ B hml hv
  obtain ⟨rfl, hsz, hP, hE⟩ := hv
  subst hsz
  have hx := B.exec
  have hb := B.bytes
  have hr := B.returns
  have hts : ∀ w9 ∈ ws_all, w9.before ([.ref (ad 0), .int (nI d)] : List Value).toArray s = true := fun w9 h => atoms_spec (ws := (wc yS_isSeen cS_isSeen 2 (some .boolean))) B.pre w9 (List.mem_cons_of_mem _ h)
  have hown : s.vm.findClass RS = some m.cls := findClass_of_methodNamed B.named
  have hlocks := B.notSynchronized
  have hl := lv_entry ([.ref (ad 0), .int (nI d)]) (n := 2) (Nat.le_of_ble_eq_true rfl)
  rw [lg_entry_eq]
  generalize (lg_sl ([.ref (ad 0), .int (nI d)]) ++ List.replicate (2 - (lg_sl ([.ref (ad 0), .int (nI d)])).length) Slot.unset).toArray = ls at hl ⊢
  have hl : lv_has ls 2 [(0, .ref (ad 0)), (1, .int (nI d))] := hl
  refine lv_aload_n hx hb dS_isSeen_0 rfl (lv_at hl 0 rfl) ?_
  refine bw_get (own := RS) (ci := 1) (C := RS) (T := TS) (N := 14) (v := .ref (ad 2)) hx hb hts inS hown hE hP 0 (by decide) rfl rfl 2 (by decide) w_90 rfl rfl dS_isSeen_1 ?_
  refine lv_iload_n hx hb dS_isSeen_4 rfl (lv_at hl 1 rfl) ?_
  refine ln_iald (L := 48) (g := (M 2)) hx hb hE hP 2 0 (by decide) (rfl) rfl (by omega) (by decide) dS_isSeen_5 ?_
  refine lv_if_eq (tgt := 22) hx hb dS_isSeen_6 (by decide) (fun c_6 => ?_) (fun c_6 => ?_)
  · skip
    refine lv_iconst (v := nI 0) hx hb dS_isSeen_22 (by decide) ?_
    exact W.zret (v := nI 0) (ty := .boolean) hx hb hr (by decide) (fun t ht hW => ⟨_, rfl, jb.zero (fun h9 => h9.1 c_6), ht⟩) (fun _ h => nomatch h) dS_isSeen_23
  · skip
    refine lv_aload_n hx hb dS_isSeen_9 rfl (lv_at hl 0 rfl) ?_
    refine bw_get (own := RS) (ci := 1) (C := RS) (T := TS) (N := 14) (v := .ref (ad 153)) hx hb hts inS hown hE hP 0 (by decide) rfl rfl 10 (by decide) w_98 rfl rfl dS_isSeen_10 ?_
    refine lv_iload_n hx hb dS_isSeen_13 rfl (lv_at hl 1 rfl) ?_
    refine ln_zald (L := 48) (g := (M 153)) hx hb hE hP 153 1 (by decide) (rfl) rfl (by omega) (by decide) dS_isSeen_14 ?_
    refine lv_if_eq (tgt := 22) hx hb dS_isSeen_15 (by decide) (fun c_15 => ?_) (fun c_15 => ?_)
    · skip
      refine lv_iconst (v := nI 0) hx hb dS_isSeen_22 (by decide) ?_
      exact W.zret (v := nI 0) (ty := .boolean) hx hb hr (by decide) (fun t ht hW => ⟨_, rfl, jb.zero (fun h9 => h9.2 c_15), ht⟩) (fun _ h => nomatch h) dS_isSeen_23
    · skip
      refine lv_iconst (v := nI 1) hx hb dS_isSeen_18 (by decide) ?_
      refine lv_goto (tgt := 23) hx hb dS_isSeen_19 (by decide) ?_
      exact W.zret (v := nI 1) (ty := .boolean) hx hb hr (by decide) (fun t ht hW => ⟨_, rfl, jb.one ⟨c_6, c_15⟩, ht⟩) (fun _ h => nomatch h) dS_isSeen_23

set_option maxHeartbeats 4000000 in
set_option maxRecDepth 100000 in
theorem kS_isDrawnBefore (l : Launch) (D : va_G) (cs : Nat → ClassId) (ad : Nat → Nat) (hI : bw_I ad 162) (M : Nat → Nat → Int32) (sz : Nat) (a b : Nat) (ha : a < 48) (hb0 : b < 48)  : Met l yS_isDrawnBefore (wc yS_isDrawnBefore cS_isDrawnBefore 3 (some .boolean)) ({ frames := 0, cells := 0, slots := 0, locals := 0 } : Room) (va_Pc [.ref (ad 0), .int (nI a), .int (nI b)] (sP D cs ad M sz)) (vp_Si (jb (jbef (M 2) (M 154) a b))) 0 0 (fun _ => False) := by
  refine Met.ofW (cc := cS_isDrawnBefore) (maxL := 3) (ret := (some .boolean)) (by decide +kernel) rfl ?_
  intro p e s m args below meth c s₁ B hml hv
  obtain ⟨rfl, hsz, hP, hE⟩ := hv
  subst hsz
  have hx := B.exec
  have hb := B.bytes
  have hr := B.returns
  have hts : ∀ w9 ∈ ws_all, w9.before ([.ref (ad 0), .int (nI a), .int (nI b)] : List Value).toArray s = true := fun w9 h => atoms_spec (ws := (wc yS_isDrawnBefore cS_isDrawnBefore 3 (some .boolean))) B.pre w9 (List.mem_cons_of_mem _ h)
  have hown : s.vm.findClass RS = some m.cls := findClass_of_methodNamed B.named
  have hlocks := B.notSynchronized
  have hl := lv_entry ([.ref (ad 0), .int (nI a), .int (nI b)]) (n := 3) (Nat.le_of_ble_eq_true rfl)
  rw [lg_entry_eq]
  generalize (lg_sl ([.ref (ad 0), .int (nI a), .int (nI b)]) ++ List.replicate (3 - (lg_sl ([.ref (ad 0), .int (nI a), .int (nI b)])).length) Slot.unset).toArray = ls at hl ⊢
  have hl : lv_has ls 3 [(0, .ref (ad 0)), (1, .int (nI a)), (2, .int (nI b))] := hl
  refine lv_aload_n hx hb dS_isDrawnBefore_0 rfl (lv_at hl 0 rfl) ?_
  refine bw_get (own := RS) (ci := 1) (C := RS) (T := TS) (N := 14) (v := .ref (ad 2)) hx hb hts inS hown hE hP 0 (by decide) rfl rfl 2 (by decide) w_90 rfl rfl dS_isDrawnBefore_1 ?_
  refine lv_iload_n hx hb dS_isDrawnBefore_4 rfl (lv_at hl 1 rfl) ?_
  refine ln_iald (L := 48) (g := (M 2)) hx hb hE hP 2 0 (by decide) (rfl) rfl (by omega) (by decide) dS_isDrawnBefore_5 ?_
  refine lv_aload_n hx hb dS_isDrawnBefore_6 rfl (lv_at hl 0 rfl) ?_
  refine bw_get (own := RS) (ci := 1) (C := RS) (T := TS) (N := 14) (v := .ref (ad 2)) hx hb hts inS hown hE hP 0 (by decide) rfl rfl 2 (by decide) w_90 rfl rfl dS_isDrawnBefore_7 ?_
  refine lv_iload_n hx hb dS_isDrawnBefore_10 rfl (lv_at hl 2 rfl) ?_
  refine ln_iald (L := 48) (g := (M 2)) hx hb hE hP 2 0 (by decide) (rfl) rfl (by omega) (by decide) dS_isDrawnBefore_11 ?_
  refine lv_icmp_eq (tgt := 31) hx hb dS_isDrawnBefore_12 (by decide) (fun c_12 => ?_) (fun c_12 => ?_)
  · skip
    refine lv_aload_n hx hb dS_isDrawnBefore_31 rfl (lv_at hl 0 rfl) ?_
    refine bw_get (own := RS) (ci := 1) (C := RS) (T := TS) (N := 14) (v := .ref (ad 2)) hx hb hts inS hown hE hP 0 (by decide) rfl rfl 2 (by decide) w_90 rfl rfl dS_isDrawnBefore_32 ?_
    refine lv_iload_n hx hb dS_isDrawnBefore_35 rfl (lv_at hl 1 rfl) ?_
    refine ln_iald (L := 48) (g := (M 2)) hx hb hE hP 2 0 (by decide) (rfl) rfl (by omega) (by decide) dS_isDrawnBefore_36 ?_
    refine lv_iconst (v := nI 1) hx hb dS_isDrawnBefore_37 (by decide) ?_
    refine lv_icmp_ne (tgt := 64) hx hb dS_isDrawnBefore_38 (by decide) (fun c_38 => ?_) (fun c_38 => ?_)
    · skip
      refine lv_aload_n hx hb dS_isDrawnBefore_64 rfl (lv_at hl 0 rfl) ?_
      refine bw_get (own := RS) (ci := 1) (C := RS) (T := TS) (N := 14) (v := .ref (ad 154)) hx hb hts inS hown hE hP 0 (by decide) rfl rfl 11 (by decide) w_99 rfl rfl dS_isDrawnBefore_65 ?_
      refine lv_iload_n hx hb dS_isDrawnBefore_68 rfl (lv_at hl 1 rfl) ?_
      refine ln_iald (L := 48) (g := (M 154)) hx hb hE hP 154 0 (by decide) (rfl) rfl (by omega) (by decide) dS_isDrawnBefore_69 ?_
      refine lv_aload_n hx hb dS_isDrawnBefore_70 rfl (lv_at hl 0 rfl) ?_
      refine bw_get (own := RS) (ci := 1) (C := RS) (T := TS) (N := 14) (v := .ref (ad 154)) hx hb hts inS hown hE hP 0 (by decide) rfl rfl 11 (by decide) w_99 rfl rfl dS_isDrawnBefore_71 ?_
      refine lv_iload_n hx hb dS_isDrawnBefore_74 rfl (lv_at hl 2 rfl) ?_
      refine ln_iald (L := 48) (g := (M 154)) hx hb hE hP 154 0 (by decide) (rfl) rfl (by omega) (by decide) dS_isDrawnBefore_75 ?_
      refine lv_icmp_le (tgt := 83) hx hb dS_isDrawnBefore_76 (by decide) (fun c_76 => ?_) (fun c_76 => ?_)
      · skip
        refine lv_iconst (v := nI 0) hx hb dS_isDrawnBefore_83 (by decide) ?_
        exact W.zret (v := nI 0) (ty := .boolean) hx hb hr (by decide) (fun t ht hW => ⟨_, rfl, jb.zero (by unfold jbef; rw [if_pos c_12, if_neg c_38]; simp only [Int32.lt_iff_toInt_lt, Int32.le_iff_toInt_le] at c_76 ⊢; omega), ht⟩) (fun _ h => nomatch h) dS_isDrawnBefore_84
      · skip
        refine lv_iconst (v := nI 1) hx hb dS_isDrawnBefore_79 (by decide) ?_
        refine lv_goto (tgt := 84) hx hb dS_isDrawnBefore_80 (by decide) ?_
        exact W.zret (v := nI 1) (ty := .boolean) hx hb hr (by decide) (fun t ht hW => ⟨_, rfl, jb.one (by unfold jbef; rw [if_pos c_12, if_neg c_38]; simp only [Int32.lt_iff_toInt_lt, Int32.le_iff_toInt_le] at c_76 ⊢; omega), ht⟩) (fun _ h => nomatch h) dS_isDrawnBefore_84
    · skip
      refine lv_aload_n hx hb dS_isDrawnBefore_41 rfl (lv_at hl 0 rfl) ?_
      refine bw_get (own := RS) (ci := 1) (C := RS) (T := TS) (N := 14) (v := .ref (ad 154)) hx hb hts inS hown hE hP 0 (by decide) rfl rfl 11 (by decide) w_99 rfl rfl dS_isDrawnBefore_42 ?_
      refine lv_iload_n hx hb dS_isDrawnBefore_45 rfl (lv_at hl 1 rfl) ?_
      refine ln_iald (L := 48) (g := (M 154)) hx hb hE hP 154 0 (by decide) (rfl) rfl (by omega) (by decide) dS_isDrawnBefore_46 ?_
      refine lv_aload_n hx hb dS_isDrawnBefore_47 rfl (lv_at hl 0 rfl) ?_
      refine bw_get (own := RS) (ci := 1) (C := RS) (T := TS) (N := 14) (v := .ref (ad 154)) hx hb hts inS hown hE hP 0 (by decide) rfl rfl 11 (by decide) w_99 rfl rfl dS_isDrawnBefore_48 ?_
      refine lv_iload_n hx hb dS_isDrawnBefore_51 rfl (lv_at hl 2 rfl) ?_
      refine ln_iald (L := 48) (g := (M 154)) hx hb hE hP 154 0 (by decide) (rfl) rfl (by omega) (by decide) dS_isDrawnBefore_52 ?_
      refine lv_icmp_ge (tgt := 60) hx hb dS_isDrawnBefore_53 (by decide) (fun c_53 => ?_) (fun c_53 => ?_)
      · skip
        refine lv_iconst (v := nI 0) hx hb dS_isDrawnBefore_60 (by decide) ?_
        refine lv_goto (tgt := 84) hx hb dS_isDrawnBefore_61 (by decide) ?_
        exact W.zret (v := nI 0) (ty := .boolean) hx hb hr (by decide) (fun t ht hW => ⟨_, rfl, jb.zero (by unfold jbef; rw [if_pos c_12, if_pos c_38]; simp only [Int32.lt_iff_toInt_lt, Int32.le_iff_toInt_le] at c_53 ⊢; omega), ht⟩) (fun _ h => nomatch h) dS_isDrawnBefore_84
      · skip
        refine lv_iconst (v := nI 1) hx hb dS_isDrawnBefore_56 (by decide) ?_
        refine lv_goto (tgt := 84) hx hb dS_isDrawnBefore_57 (by decide) ?_
        exact W.zret (v := nI 1) (ty := .boolean) hx hb hr (by decide) (fun t ht hW => ⟨_, rfl, jb.one (by unfold jbef; rw [if_pos c_12, if_pos c_38]; simp only [Int32.lt_iff_toInt_lt, Int32.le_iff_toInt_le] at c_53 ⊢; omega), ht⟩) (fun _ h => nomatch h) dS_isDrawnBefore_84
  · skip
    refine lv_aload_n hx hb dS_isDrawnBefore_15 rfl (lv_at hl 0 rfl) ?_
    refine bw_get (own := RS) (ci := 1) (C := RS) (T := TS) (N := 14) (v := .ref (ad 2)) hx hb hts inS hown hE hP 0 (by decide) rfl rfl 2 (by decide) w_90 rfl rfl dS_isDrawnBefore_16 ?_
    refine lv_iload_n hx hb dS_isDrawnBefore_19 rfl (lv_at hl 1 rfl) ?_
    refine ln_iald (L := 48) (g := (M 2)) hx hb hE hP 2 0 (by decide) (rfl) rfl (by omega) (by decide) dS_isDrawnBefore_20 ?_
    refine lv_iconst (v := nI 1) hx hb dS_isDrawnBefore_21 (by decide) ?_
    refine lv_icmp_ne (tgt := 29) hx hb dS_isDrawnBefore_22 (by decide) (fun c_22 => ?_) (fun c_22 => ?_)
    · skip
      refine lv_iconst (v := nI 0) hx hb dS_isDrawnBefore_29 (by decide) ?_
      exact W.zret (v := nI 0) (ty := .boolean) hx hb hr (by decide) (fun t ht hW => ⟨_, rfl, jb.zero (by unfold jbef; rw [if_neg c_12]; exact c_22), ht⟩) (fun _ h => nomatch h) dS_isDrawnBefore_30
    · skip
      refine lv_iconst (v := nI 1) hx hb dS_isDrawnBefore_25 (by decide) ?_
      refine lv_goto (tgt := 30) hx hb dS_isDrawnBefore_26 (by decide) ?_
      exact W.zret (v := nI 1) (ty := .boolean) hx hb hr (by decide) (fun t ht hW => ⟨_, rfl, jb.one (by unfold jbef; rw [if_neg c_12]; exact c_22), ht⟩) (fun _ h => nomatch h) dS_isDrawnBefore_30
end
section
/-! THE ORDER (the class): insertion by a total order of keys -/
def ky1 (kd : Nat → Int32) (a : Nat) : Int := (kd a).toInt
def ky2 (kd dp : Nat → Int32) (a : Nat) : Int := if kd a = nI 1 then (dp a).toInt else -(dp a).toInt
/-- the document's order: solid ones first, by their depths; equal ones by their numbers -/
def ltK (k1 k2 : Nat → Int) (a b : Nat) : Prop := k1 a < k1 b ∨ (k1 a = k1 b ∧ (k2 a < k2 b ∨ (k2 a = k2 b ∧ a < b)))
theorem jbef_key {kd dp : Nat → Int32} {a b : Nat} (ha : kd a = nI 1 ∨ kd a = nI 2) (hb : kd b = nI 1 ∨ kd b = nI 2) : jbef kd dp a b ↔ (ky1 kd a < ky1 kd b ∨ (ky1 kd a = ky1 kd b ∧ ky2 kd dp a < ky2 kd dp b)) := by
  have e1 : (nI 1).toInt = 1 := by decide
  have e2 : (nI 2).toInt = 2 := by decide
  have n12 : ¬ nI 1 = nI 2 := by decide
  have n21 : ¬ nI 2 = nI 1 := by decide
  unfold jbef ky1 ky2
  rcases ha with ha | ha <;> rcases hb with hb | hb <;> rw [ha, hb]
  · rw [if_pos rfl, if_pos rfl, if_pos rfl, if_pos rfl, Int32.lt_iff_toInt_lt]
    exact ⟨fun h => Or.inr ⟨rfl, h⟩, fun h => by rcases h with h | h; exact absurd h (Int.lt_irrefl _); exact h.2⟩
  · rw [if_neg n12]
    exact ⟨fun _ => Or.inl (by rw [e1, e2]; decide), fun _ => rfl⟩
  · rw [if_neg n21]
    exact ⟨fun h => absurd h n21, fun h => by rw [e1, e2] at h; omega⟩
  · rw [if_pos rfl, if_neg n21, if_neg n21, if_neg n21, Int32.lt_iff_toInt_lt]
    exact ⟨fun h => Or.inr ⟨rfl, by omega⟩, fun h => by rcases h with h | h; exact absurd h (Int.lt_irrefl _); omega⟩
/-- o lists the S below d, z of them, in order -/
def srt (k1 k2 : Nat → Int) (S : Nat → Prop) (d z : Nat) (o : Nat → Nat) : Prop := (∀ i, i < z → o i < d ∧ S (o i)) ∧ (∀ i j, i < j → j < z → ltK k1 k2 (o i) (o j)) ∧ ∀ n, n < d → S n → ∃ i, i < z ∧ o i = n
def jins (o : Nat → Nat) (d pl : Nat) : Nat → Nat := fun j => if j < pl then o j else if j = pl then d else o (j - 1)
theorem srt_skip {k1 k2 : Nat → Int} {S : Nat → Prop} {d z : Nat} {o : Nat → Nat} (h : srt k1 k2 S d z o) (hd : ¬ S d) : srt k1 k2 S (d + 1) z o := by
  refine ⟨fun i hi => ⟨by have := (h.1 i hi).1; omega, (h.1 i hi).2⟩, h.2.1, fun n hn hs => ?_⟩
  by_cases e : n = d
  · subst e; exact absurd hs hd
  · exact h.2.2 n (by omega) hs
theorem srt_ins {k1 k2 : Nat → Int} {S : Nat → Prop} {d z pl : Nat} {o : Nat → Nat} (h : srt k1 k2 S d z o) (hd : S d) (hpl : pl ≤ z) (hb : ∀ j, pl ≤ j → j < z → k1 d < k1 (o j) ∨ (k1 d = k1 (o j) ∧ k2 d < k2 (o j))) (ha : pl = 0 ∨ ¬ (k1 d < k1 (o (pl - 1)) ∨ (k1 d = k1 (o (pl - 1)) ∧ k2 d < k2 (o (pl - 1))))) : srt k1 k2 S (d + 1) (z + 1) (jins o d pl) := by
  have hlow : ∀ j, j < pl → ltK k1 k2 (o j) d := by
    intro j hj
    rcases ha with ha | ha
    · omega
    · have h1 : ltK k1 k2 (o (pl - 1)) d := by
        have := (h.1 (pl - 1) (by omega)).1
        unfold ltK; omega
      by_cases e : j = pl - 1
      · rw [e]; exact h1
      · have h2 := h.2.1 j (pl - 1) (by omega) (by omega)
        unfold ltK at h1 h2 ⊢; omega
  have hhigh : ∀ j, pl ≤ j → j < z → ltK k1 k2 d (o j) := by
    intro j h1 h2
    have := hb j h1 h2
    unfold ltK; omega
  refine ⟨fun i hi => ?_, fun i j hij hj => ?_, fun n hn hs => ?_⟩
  · unfold jins
    by_cases c1 : i < pl
    · rw [if_pos c1]; exact ⟨by have := (h.1 i (by omega)).1; omega, (h.1 i (by omega)).2⟩
    · rw [if_neg c1]
      by_cases c2 : i = pl
      · rw [if_pos c2]; exact ⟨by omega, hd⟩
      · rw [if_neg c2]; exact ⟨by have := (h.1 (i - 1) (by omega)).1; omega, (h.1 (i - 1) (by omega)).2⟩
  · unfold jins
    by_cases c1 : j < pl
    · rw [if_pos c1, if_pos (by omega)]; exact h.2.1 i j hij (by omega)
    · rw [if_neg c1]
      by_cases c2 : j = pl
      · rw [if_pos c2, if_pos (by omega)]; exact hlow i (by omega)
      · rw [if_neg c2]
        by_cases c3 : i < pl
        · rw [if_pos c3]; exact h.2.1 i (j - 1) (by omega) (by omega)
        · rw [if_neg c3]
          by_cases c4 : i = pl
          · rw [if_pos c4]; exact hhigh (j - 1) (by omega) (by omega)
          · rw [if_neg c4]; exact h.2.1 (i - 1) (j - 1) (by omega) (by omega)
  · by_cases e : n = d
    · exact ⟨pl, by omega, by unfold jins; rw [if_neg (by omega), if_pos rfl, e]⟩
    · obtain ⟨i, hi, hoi⟩ := h.2.2 n (by omega) hs
      by_cases c1 : i < pl
      · exact ⟨i, by omega, by unfold jins; rw [if_pos c1]; exact hoi⟩
      · exact ⟨i + 1, by omega, by unfold jins; rw [if_neg (by omega), if_neg (by omega)]; exact hoi⟩
def iInv (M M1 : Nat → Nat → Int32) (d z pl : Nat) (o : Nat → Nat) : Prop := (∀ q, q ≠ 155 → M1 q = M q) ∧ (∀ j, j < pl → M1 155 j = M 155 j) ∧ (∀ j, pl < j → j ≤ z → M1 155 j = M 155 (j - 1)) ∧ ∀ j, pl ≤ j → j < z → jbef (M 2) (M 154) d (o j)
/-- what insert leaves -/
def iPost (M M1 : Nat → Nat → Int32) (d z : Nat) (o : Nat → Nat) : Prop := ∃ pl, pl ≤ z ∧ (∀ q, q ≠ 155 → M1 q = M q) ∧ (∀ j, j < pl → M1 155 j = M 155 j) ∧ M1 155 pl = nI d ∧ (∀ j, pl < j → j ≤ z → M1 155 j = M 155 (j - 1)) ∧ (∀ j, pl ≤ j → j < z → jbef (M 2) (M 154) d (o j)) ∧ (pl = 0 ∨ ¬ jbef (M 2) (M 154) d (o (pl - 1)))
theorem iInv.step {M M1 M2 : Nat → Nat → Int32} {d z pl : Nat} {o : Nat → Nat} (h : iInv M M1 d z pl o) (h0 : 0 < pl) (hz : pl ≤ z) (e : M2 = va_up M1 155 (upd (M1 155) pl (M1 155 (pl - 1)))) (hb : jbef (M 2) (M 154) d (o (pl - 1))) : iInv M M2 d z (pl - 1) o := by
  subst e
  obtain ⟨a1, a2, a3, a4⟩ := h
  refine ⟨fun q hq => by rw [va_up_ne _ _ hq]; exact a1 q hq, fun j hj => by rw [va_up_self, pk_un (by omega)]; exact a2 j (by omega), fun j h1 h2 => ?_, fun j h1 h2 => ?_⟩
  · rw [va_up_self]
    by_cases c : j = pl
    · subst c
      rw [pk_us]; exact a2 (j - 1) (by omega)
    · rw [pk_un c]; exact a3 j (by omega) h2
  · by_cases c : j = pl - 1
    · rw [c]; exact hb
    · exact a4 j (by omega) h2
theorem iInv.done {M M1 M2 : Nat → Nat → Int32} {d z pl : Nat} {o : Nat → Nat} (h : iInv M M1 d z pl o) (hz : pl ≤ z) (e : M2 = va_up M1 155 (upd (M1 155) pl (nI d))) (hb : pl = 0 ∨ ¬ jbef (M 2) (M 154) d (o (pl - 1))) : iPost M M2 d z o := by
  subst e
  obtain ⟨a1, a2, a3, a4⟩ := h
  exact ⟨pl, hz, fun q hq => by rw [va_up_ne _ _ hq]; exact a1 q hq, fun j hj => by rw [va_up_self, pk_un (by omega)]; exact a2 j hj, by rw [va_up_self, pk_us], fun j h1 h2 => by rw [va_up_self, pk_un (by omega)]; exact a3 j h1 h2, a4, hb⟩

set_option maxHeartbeats 4000000 in
set_option maxRecDepth 100000 in
theorem kS_insert (l : Launch) (D : va_G) (cs : Nat → ClassId) (ad : Nat → Nat) (hI : bw_I ad 162) (M : Nat → Nat → Int32) (sz : Nat) (d z : Nat) (o : Nat → Nat) (hd : d < 48) (hz : z < 48) (ho : ∀ j, j < z → o j < 48 ∧ M 155 j = nI (o j))  : Met l yS_insert (wc yS_insert cS_insert 4 none) ({ frames := 1, cells := 0, slots := 0, locals := 22 } : Room) (va_Pc [.ref (ad 0), .int (nI d), .int (nI z)] (sP D cs ad M sz)) (bQv D ad 162 (sc_cell cs ad) sz (fun M1 => iPost M M1 d z o)) 0 0 (bw_A ad 162 sz) := by
  refine Met.ofW (cc := cS_insert) (maxL := 4) (ret := none) (by decide +kernel) rfl ?_
  intro p e s m args below meth c s₁ B hml hv
  obtain ⟨rfl, hsz, hP, hE⟩ := hv
  subst hsz
  have hx := B.exec
  have hb := B.bytes
  have hr := B.returns
  have hts : ∀ w9 ∈ ws_all, w9.before ([.ref (ad 0), .int (nI d), .int (nI z)] : List Value).toArray s = true := fun w9 h => atoms_spec (ws := (wc yS_insert cS_insert 4 none)) B.pre w9 (List.mem_cons_of_mem _ h)
  have hown : s.vm.findClass RS = some m.cls := findClass_of_methodNamed B.named
  have hlocks := B.notSynchronized
  have hS : va_S (bw_A ad 162 s.heap.size) s.heap s.heap [] := va_S.rf
  have hl := lv_entry ([.ref (ad 0), .int (nI d), .int (nI z)]) (n := 4) (Nat.le_of_ble_eq_true rfl)
  rw [lg_entry_eq]
  generalize (lg_sl ([.ref (ad 0), .int (nI d), .int (nI z)]) ++ List.replicate (4 - (lg_sl ([.ref (ad 0), .int (nI d), .int (nI z)])).length) Slot.unset).toArray = ls at hl ⊢
  have hl : lv_has ls 4 [(0, .ref (ad 0)), (1, .int (nI d)), (2, .int (nI z))] := hl
  refine lv_iload_n hx hb dS_insert_0 rfl (lv_at hl 2 rfl) ?_
  refine lv_istore_n (lv' := [(3, .int (nI z)), (0, .ref (ad 0)), (1, .int (nI d)), (2, .int (nI z))]) hx hb dS_insert_1 rfl hl (by decide) rfl (fun ls hl => ?_)
  have loop : ∀ k : Nat, (∀ (pl : Nat)  (M1 : Nat → Nat → Int32) (H : Heap) (locs : List Loc) (ls : Array Slot), pl ≤ z → iInv M M1 d z pl o → pl < k → va_P D cls3 (bw ad 162 (fun j => sc_cell cs ad j (M1 j))) H → va_S (bw_A ad 162 s.heap.size) s.heap H locs → lv_has ls 4 [(3, .int (nI pl)), (0, .ref (ad 0)), (1, .int (nI d)), (2, .int (nI z))] → W p l e (headSpec (wc yS_insert cS_insert 4 none) ({ frames := 1, cells := 0, slots := 0, locals := 22 } : Room)).room s m ([.ref (ad 0), .int (nI d), .int (nI z)] : List Value).toArray below meth c H locs 0 0 (MQ below (bQv D ad 162 (sc_cell cs ad) s.heap.size (fun M1 => iPost M M1 d z o)) ([.ref (ad 0), .int (nI d), .int (nI z)] : List Value).toArray s 0 0 (bw_A ad 162 s.heap.size)) (F0 m 2 ls [])) := by
    intro k
    induction k with
    | zero => exact by intros; omega
    | succ k ih =>
      intro pl  M1 H locs ls hpl hinv hmu hP hS hl
      refine lv_iload_n hx hb dS_insert_2 rfl (lv_at hl 0 rfl) ?_
      refine ln_if_le (tgt := 42) hx hb dS_insert_3 (by decide) (by omega) (fun c_3 => ?_) (fun c_3 => ?_)
      · skip
        refine lv_aload_n hx hb dS_insert_42 rfl (lv_at hl 1 rfl) ?_
        refine bw_get (own := RS) (ci := 1) (C := RS) (T := TS) (N := 14) (v := .ref (ad 155)) hx hb hts inS hown hE hP 0 (by decide) rfl rfl 12 (by decide) w_100 rfl rfl dS_insert_43 ?_
        refine lv_iload_n hx hb dS_insert_46 rfl (lv_at hl 0 rfl) ?_
        refine lv_iload_n hx hb dS_insert_47 rfl (lv_at hl 2 rfl) ?_
        refine ln_iast (L := 48) hx hb hE hI hP hS 155 0 (by decide) (rfl) rfl (by omega) (by decide) (upd (M1 155) pl (nI d)) (rfl) dS_insert_48 (fun M_1 H locs eM_1 hP hS => ?_)
        exact W.vret hx hb hr (fun t ht hW => ⟨⟨M_1, rfl, hinv.done hpl eM_1 (Or.inl c_3), by show va_P _ _ _ t.heap; rw [ht]; exact hP⟩, hS.F ht⟩) hS.2.2 dS_insert_49
      · skip
        refine lv_aload_n hx hb dS_insert_6 rfl (lv_at hl 1 rfl) ?_
        refine lv_iload_n hx hb dS_insert_7 rfl (lv_at hl 2 rfl) ?_
        refine lv_aload_n hx hb dS_insert_8 rfl (lv_at hl 1 rfl) ?_
        refine bw_get (own := RS) (ci := 1) (C := RS) (T := TS) (N := 14) (v := .ref (ad 155)) hx hb hts inS hown hE hP 0 (by decide) rfl rfl 12 (by decide) w_100 rfl rfl dS_insert_9 ?_
        refine lv_iload_n hx hb dS_insert_12 rfl (lv_at hl 0 rfl) ?_
        refine lv_iconst (v := nI 1) hx hb dS_insert_13 (by decide) ?_
        refine ln_isub hx hb dS_insert_14 (by omega) ?_
        refine ln_iald (L := 48) (g := (M1 155)) hx hb hE hP 155 0 (by decide) (rfl) rfl (by omega) (by decide) dS_insert_15 ?_
        refine ln_asi (nI (o (pl - 1))) (by rw [hinv.2.1 (pl - 1) (by omega)]; exact (ho (pl - 1) (by omega)).2) ?_
        refine vp_callSi (va_Run.run (bc_runV (own := RS) (C := RS) (As := [.int (nI d), .int (nI (o (pl - 1)))]) (rest := []) hx hb (hml.trans hl.1.symm) hown hts (kS_isDrawnBefore l D cs ad hI M1 H.size d (o (pl - 1)) hd (ho (pl - 1) (by omega)).1) w_219 w_216 w_218 ws_sel_S_isDrawnBefore w_1 ⟨rfl, hd_S_isDrawnBefore⟩ rfl ⟨rfl, rfl⟩ ⟨Nat.le_of_ble_eq_true rfl, Nat.le_of_ble_eq_true rfl⟩ (fun _ _ _ _ h => h.calling) (bc_recv (r := (RS, TS, 14)) hE hP 0 (by decide) rfl rfl) (fun U hU hW => ⟨by rw [hU], by rw [hU]; exact hP, hE.warm hW⟩) rfl (Nat.le_of_ble_eq_true rfl) dS_insert_16 ⟨Nat.le_of_ble_eq_true rfl, Nat.le_of_ble_eq_true rfl⟩)) (fun r_16 hr_16 => ?_)
        rw [hinv.1 2 (by decide), hinv.1 154 (by decide)] at hr_16
        refine lv_if_eq (tgt := 42) hx hb dS_insert_19 (by decide) (fun c_19 => ?_) (fun c_19 => ?_)
        · skip
          refine lv_aload_n hx hb dS_insert_42 rfl (lv_at hl 1 rfl) ?_
          refine bw_get (own := RS) (ci := 1) (C := RS) (T := TS) (N := 14) (v := .ref (ad 155)) hx hb hts inS hown hE hP 0 (by decide) rfl rfl 12 (by decide) w_100 rfl rfl dS_insert_43 ?_
          refine lv_iload_n hx hb dS_insert_46 rfl (lv_at hl 0 rfl) ?_
          refine lv_iload_n hx hb dS_insert_47 rfl (lv_at hl 2 rfl) ?_
          refine ln_iast (L := 48) hx hb hE hI hP hS 155 0 (by decide) (rfl) rfl (by omega) (by decide) (upd (M1 155) pl (nI d)) (rfl) dS_insert_48 (fun M_2 H locs eM_2 hP hS => ?_)
          exact W.vret hx hb hr (fun t ht hW => ⟨⟨M_2, rfl, hinv.done hpl eM_2 (Or.inr (hr_16.f c_19)), by show va_P _ _ _ t.heap; rw [ht]; exact hP⟩, hS.F ht⟩) hS.2.2 dS_insert_49
        · skip
          refine lv_aload_n hx hb dS_insert_22 rfl (lv_at hl 1 rfl) ?_
          refine bw_get (own := RS) (ci := 1) (C := RS) (T := TS) (N := 14) (v := .ref (ad 155)) hx hb hts inS hown hE hP 0 (by decide) rfl rfl 12 (by decide) w_100 rfl rfl dS_insert_23 ?_
          refine lv_iload_n hx hb dS_insert_26 rfl (lv_at hl 0 rfl) ?_
          refine lv_aload_n hx hb dS_insert_27 rfl (lv_at hl 1 rfl) ?_
          refine bw_get (own := RS) (ci := 1) (C := RS) (T := TS) (N := 14) (v := .ref (ad 155)) hx hb hts inS hown hE hP 0 (by decide) rfl rfl 12 (by decide) w_100 rfl rfl dS_insert_28 ?_
          refine lv_iload_n hx hb dS_insert_31 rfl (lv_at hl 0 rfl) ?_
          refine lv_iconst (v := nI 1) hx hb dS_insert_32 (by decide) ?_
          refine ln_isub hx hb dS_insert_33 (by omega) ?_
          refine ln_iald (L := 48) (g := (M1 155)) hx hb hE hP 155 0 (by decide) (rfl) rfl (by omega) (by decide) dS_insert_34 ?_
          refine ln_iast (L := 48) hx hb hE hI hP hS 155 0 (by decide) (rfl) rfl (by omega) (by decide) (upd (M1 155) pl (M1 155 (pl - 1))) (rfl) dS_insert_35 (fun M_3 H locs eM_3 hP hS => ?_)
          refine lv_iinc (v := nI (pl - 1)) (lv' := [(3, .int (nI (pl - 1))), (0, .ref (ad 0)), (1, .int (nI d)), (2, .int (nI z))]) hx hb dS_insert_36 hl (k := 0) rfl (sb_m1 (by omega)) (by decide) rfl (fun ls hl => ?_)
          refine lv_goto (tgt := 2) hx hb dS_insert_39 (by decide) ?_
          exact ih (pl - 1)  M_3 H locs ls (by omega) (hinv.step c_3 hpl eM_3 (hr_16.t c_19)) (by omega) hP hS (lv_sub hl [0, 1, 2, 3] rfl)
  exact (loop 100000) z  M s.heap [] ls (by omega) (⟨fun _ _ => rfl, fun _ _ => rfl, fun j h1 h2 => by omega, fun j h1 h2 => by omega⟩) (by omega) hP hS (lv_sub hl [0, 1, 2, 3] rfl)

/-- the state of the sort: M0 behind the worlds and the flags; S: who is seen; dq: the depths -/
def pInv (M0 M1 : Nat → Nat → Int32) (S : Nat → Prop) (dq : Nat → Int32) (d z : Nat) (o : Nat → Nat) : Prop := (∀ q, q ≠ 154 → q ≠ 155 → M1 q = M0 q) ∧ z ≤ d ∧ (∀ n, n < d → S n → M1 154 n = dq n) ∧ (∀ j, j < z → M1 155 j = nI (o j)) ∧ srt (ky1 (M0 2)) (ky2 (M0 2) dq) S d z o
theorem pInv.as {M0 M1 : Nat → Nat → Int32} {S : Nat → Prop} {dq : Nat → Int32} {d d' z : Nat} {o : Nat → Nat} (h : pInv M0 M1 S dq d z o) (e : d = d') : pInv M0 M1 S dq d' z o := e ▸ h
theorem pInv.skip {M0 M1 : Nat → Nat → Int32} {S : Nat → Prop} {dq : Nat → Int32} {d z : Nat} {o : Nat → Nat} (h : pInv M0 M1 S dq d z o) (hd : ¬ S d) : pInv M0 M1 S dq (d + 1) z o := by
  obtain ⟨a1, a2, a3, a4, a5⟩ := h
  refine ⟨a1, by omega, fun n hn hs => ?_, a4, srt_skip a5 hd⟩
  by_cases e : n = d
  · subst e; exact absurd hs hd
  · exact a3 n (by omega) hs
theorem pInv.ins {M0 M1 M2 M3 : Nat → Nat → Int32} {S : Nat → Prop} {dq : Nat → Int32} {d z : Nat} {o : Nat → Nat} {x : Int32} (h : pInv M0 M1 S dq d z o) (hS : S d) (hk : ∀ n, n ≤ d → S n → (M0 2 n = nI 1 ∨ M0 2 n = nI 2)) (e : M2 = va_up M1 154 (upd (M1 154) d x)) (hx : x = dq d) {pl : Nat} (hp : pl ≤ z ∧ (∀ q, q ≠ 155 → M3 q = M2 q) ∧ (∀ j, j < pl → M3 155 j = M2 155 j) ∧ M3 155 pl = nI d ∧ (∀ j, pl < j → j ≤ z → M3 155 j = M2 155 (j - 1)) ∧ (∀ j, pl ≤ j → j < z → jbef (M2 2) (M2 154) d (o j)) ∧ (pl = 0 ∨ ¬ jbef (M2 2) (M2 154) d (o (pl - 1)))) : pInv M0 M3 S dq (d + 1) (z + 1) (jins o d pl) := by
  obtain ⟨a1, a2, a3, a4, a5⟩ := h
  obtain ⟨b1, b2, b3, b4, b5, b6, b7⟩ := hp
  have c2 : M2 2 = M0 2 := by rw [e, va_up_ne _ _ (by decide), a1 2 (by decide) (by decide)]
  have c155 : M2 155 = M1 155 := by rw [e, va_up_ne _ _ (by decide)]
  have c154 : ∀ n, n ≤ d → S n → M2 154 n = dq n := by
    intro n hn hs
    rw [e, va_up_self]
    by_cases q : n = d
    · subst q; rw [pk_us, hx]
    · rw [pk_un q]; exact a3 n (by omega) hs
  have key : ∀ j, j < z → (jbef (M2 2) (M2 154) d (o j) ↔ (ky1 (M0 2) d < ky1 (M0 2) (o j) ∨ (ky1 (M0 2) d = ky1 (M0 2) (o j) ∧ ky2 (M0 2) dq d < ky2 (M0 2) dq (o j)))) := by
    intro j hj
    obtain ⟨o1, o2⟩ := a5.1 j hj
    rw [c2, jbef_key (hk d (by omega) hS) (hk (o j) (by omega) o2)]
    have e1 : ky2 (M0 2) (M2 154) d = ky2 (M0 2) dq d := by unfold ky2; rw [c154 d (by omega) hS]
    have e2 : ky2 (M0 2) (M2 154) (o j) = ky2 (M0 2) dq (o j) := by unfold ky2; rw [c154 (o j) (by omega) o2]
    rw [e1, e2]
  refine ⟨fun q h1 h2 => by rw [b2 q h2, e, va_up_ne _ _ h1]; exact a1 q h1 h2, by omega, fun n hn hs => by rw [b2 154 (by decide)]; exact c154 n (by omega) hs, fun j hj => ?_, srt_ins a5 hS b1 (fun j h1 h2 => (key j h2).mp (b6 j h1 h2)) ?_⟩
  · unfold jins
    by_cases q1 : j < pl
    · rw [if_pos q1, b3 j q1, c155]; exact a4 j (by omega)
    · rw [if_neg q1]
      by_cases q2 : j = pl
      · rw [if_pos q2, q2]; exact b4
      · rw [if_neg q2, b5 j (by omega) (by omega), c155]; exact a4 (j - 1) (by omega)
  · rcases b7 with b7 | b7
    · exact Or.inl b7
    · by_cases q : pl = 0
      · exact Or.inl q
      · exact Or.inr (fun hh => b7 ((key (pl - 1) (by omega)).mpr hh))

/-- the state behind the flags and the worlds -/
def oInvR (M M0 : Nat → Nat → Int32) (N r0 : Nat) : Prop := (∀ q, 0 < q → q ≠ 153 → (q < 103 ∨ 151 ≤ q) → M0 q = M q) ∧ (∀ t, t ≠ 7 → M0 0 t = M 0 t) ∧ M0 0 7 = nI (max r0 N) ∧ wOk M0 (max r0 N) ∧ ∀ n, n < N → M0 153 n = if jopn (M 1) (M 3) n = true then 1 else 0
theorem oInvR.of {M M1 M2 : Nat → Nat → Int32} {N r0 : Nat} (h1 : oInv M M1 N) (h2 : (∀ q, 0 < q → (q < 103 ∨ 151 ≤ q) → M2 q = M1 q) ∧ (∀ t, t ≠ 7 → M2 0 t = M1 0 t) ∧ M2 0 7 = nI (max r0 N) ∧ wOk M2 (max r0 N)) : oInvR M M2 N r0 := by
  obtain ⟨a1, a2⟩ := h1
  obtain ⟨b1, b2, b3, b4⟩ := h2
  exact ⟨fun q h0 h3 h4 => by rw [b1 q h0 h4]; exact a1 q h3, fun t ht => by rw [b2 t ht, a1 0 (by decide)], b3, b4, fun n hn => by rw [b1 153 (by decide) (by decide)]; exact a2 n hn⟩
theorem oInvR.seen {M M0 : Nat → Nat → Int32} {N r0 n : Nat} (h : oInvR M M0 N r0) (hn : n < N) : (¬ M0 2 n = 0 ∧ ¬ M0 153 n = 0) ↔ (¬ M 2 n = 0 ∧ jopn (M 1) (M 3) n = true) := by
  obtain ⟨a1, -, -, -, a5⟩ := h
  rw [a1 2 (by decide) (by decide) (by decide), a5 n hn]
  cases jopn (M 1) (M 3) n with
  | true => simp
  | false => simp
theorem oInvR.depth {M M0 : Nat → Nat → Int32} {N r0 n : Nat} (h : oInvR M M0 N r0) (hp : pOk (M 1) N) (hN : N ≤ 48) (hn : n < N) : jprod (M0 152) (M0 (103 + n)) 2 3 = jprod (M 152) (jworld (M 1) (fun n => M (54 + n)) n) 2 3 := by
  obtain ⟨a1, -, -, a4, -⟩ := h
  rw [a1 152 (by decide) (by decide) (by decide)]
  refine jprod_congr (fun _ _ => rfl) (fun t ht => ?_) (by decide) (by decide)
  rw [a4 n (by omega) t ht]
  exact jworld_congr hp (by omega) (fun k _ => by rw [a1 1 (by decide) (by decide) (by decide)]) (fun k hk t _ => by
    show M0 (54 + k) t = M (54 + k) t
    rw [a1 (54 + k) (by omega) (by omega) (by omega)]) n hn t ht

theorem wOk_of {M M1 : Nat → Nat → Int32} {N r0 : Nat} (h : oInv M M1 N) (hw : wOk M r0) (hr : r0 ≤ N) (hN : N ≤ 48) (hp : pOk (M 1) N) : wOk M1 r0 := by
  intro n hn t ht
  rw [h.1 (103 + n) (by omega), hw n hn t ht]
  refine (jworld_congr hp (by omega) (fun k _ => by rw [h.1 1 (by decide)]) (fun k hk t _ => ?_) n (by omega) t ht).symm
  show M1 (54 + k) t = M (54 + k) t
  rw [h.1 (54 + k) (by omega)]

set_option maxHeartbeats 4000000 in
set_option maxRecDepth 100000 in
theorem kS_putInOrder (l : Launch) (D : va_G) (cs : Nat → ClassId) (ad : Nat → Nat) (hI : bw_I ad 162) (M : Nat → Nat → Int32) (sz : Nat) (N r0 : Nat) (hN : N ≤ 48) (hn : M 0 0 = nI N) (hr0 : r0 ≤ N) (hp : pOk (M 1) N) (hw0 : M 0 7 = nI r0) (hw : wOk M r0) (hk : ∀ n, n < N → M 2 n = 0 ∨ M 2 n = nI 1 ∨ M 2 n = nI 2)  : Met l yS_putInOrder (wc yS_putInOrder cS_putInOrder 3 (some .int)) ({ frames := 5, cells := 0, slots := 0, locals := 111 } : Room) (va_Pc [.ref (ad 0)] (sP D cs ad M sz)) (bQi D ad 162 (sc_cell cs ad) sz (fun r M1 => ∃ z o M0, r = nI z ∧ oInvR M M0 N r0 ∧ pInv M0 M1 (fun n => ¬ M 2 n = 0 ∧ jopn (M 1) (M 3) n = true) (fun n => jprod (M 152) (jworld (M 1) (fun n => M (54 + n)) n) 2 3) N z o)) 0 0 (bw_A ad 162 sz) := by
  refine Met.ofW (cc := cS_putInOrder) (maxL := 3) (ret := (some .int)) (by decide +kernel) rfl ?_
  intro p e s m args below meth c s₁ B hml hv
  obtain ⟨rfl, hsz, hP, hE⟩ := hv
  subst hsz
  have hx := B.exec
  have hb := B.bytes
  have hr := B.returns
  have hts : ∀ w9 ∈ ws_all, w9.before ([.ref (ad 0)] : List Value).toArray s = true := fun w9 h => atoms_spec (ws := (wc yS_putInOrder cS_putInOrder 3 (some .int))) B.pre w9 (List.mem_cons_of_mem _ h)
  have hown : s.vm.findClass RS = some m.cls := findClass_of_methodNamed B.named
  have hlocks := B.notSynchronized
  have hS : va_S (bw_A ad 162 s.heap.size) s.heap s.heap [] := va_S.rf
  have hl := lv_entry ([.ref (ad 0)]) (n := 3) (Nat.le_of_ble_eq_true rfl)
  rw [lg_entry_eq]
  generalize (lg_sl ([.ref (ad 0)]) ++ List.replicate (3 - (lg_sl ([.ref (ad 0)])).length) Slot.unset).toArray = ls at hl ⊢
  have hl : lv_has ls 3 [(0, .ref (ad 0))] := hl
  refine lv_aload_n hx hb dS_putInOrder_0 rfl (lv_at hl 0 rfl) ?_
  refine bc_callv (bc_runV (own := RS) (C := RS) (As := []) (rest := []) hx hb (hml.trans hl.1.symm) hown hts (kS_markOpen l D cs ad hI M s.heap.size N hN hn hp) w_188 w_185 w_187 ws_sel_S_markOpen w_1 ⟨rfl, hd_S_markOpen⟩ rfl ⟨rfl, rfl⟩ ⟨Nat.le_of_ble_eq_true rfl, Nat.le_of_ble_eq_true rfl⟩ (fun _ _ _ _ h => h.calling) (bc_recv (r := (RS, TS, 14)) hE hP 0 (by decide) rfl rfl) (fun U hU hW => ⟨by rw [hU], by rw [hU]; exact hP, hE.warm hW⟩) rfl (Nat.le_of_ble_eq_true rfl) dS_putInOrder_1 ⟨Nat.le_of_ble_eq_true rfl, Nat.le_of_ble_eq_true rfl⟩) hS (fun M_1 H locs hr_1 hP hS => ?_)
  refine lv_aload_n hx hb dS_putInOrder_4 rfl (lv_at hl 0 rfl) ?_
  refine lv_aload_n hx hb dS_putInOrder_5 rfl (lv_at hl 0 rfl) ?_
  refine bw_get (own := RS) (ci := 1) (C := RS) (T := TS) (N := 14) (v := .int (M_1 0 0)) hx hb hts inS hown hE hP 0 (by decide) rfl rfl 0 (by decide) w_88 rfl rfl dS_putInOrder_6 ?_
  refine ln_asi (nI N) (by rw [hr_1.1 0 (by decide)]; exact hn) ?_
  refine bc_callv (bc_runV (own := RS) (C := RS) (As := [.int (nI N)]) (rest := []) hx hb (hml.trans hl.1.symm) hown hts (kS_readyWorlds l D cs ad hI M_1 H.size N N r0 hN (Nat.le_refl N) hr0 (by rw [hr_1.1 1 (by decide)]; exact hp) (by rw [hr_1.1 0 (by decide)]; exact hw0) (wOk_of hr_1 hw hr0 hN hp)) w_204 w_201 w_203 ws_sel_S_readyWorlds w_1 ⟨rfl, hd_S_readyWorlds⟩ rfl ⟨rfl, rfl⟩ ⟨Nat.le_of_ble_eq_true rfl, Nat.le_of_ble_eq_true rfl⟩ (fun _ _ _ _ h => h.calling) (bc_recv (r := (RS, TS, 14)) hE hP 0 (by decide) rfl rfl) (fun U hU hW => ⟨by rw [hU], by rw [hU]; exact hP, hE.warm hW⟩) rfl (Nat.le_of_ble_eq_true rfl) dS_putInOrder_9 ⟨Nat.le_of_ble_eq_true rfl, Nat.le_of_ble_eq_true rfl⟩) hS (fun M_2 H locs hr_9 hP hS => ?_)
  have hR := oInvR.of hr_1 hr_9
  refine lv_iconst (v := nI 0) hx hb dS_putInOrder_12 (by decide) ?_
  refine lv_istore_n (lv' := [(1, .int (nI 0)), (0, .ref (ad 0))]) hx hb dS_putInOrder_13 rfl hl (by decide) rfl (fun ls hl => ?_)
  refine lv_iconst (v := nI 0) hx hb dS_putInOrder_14 (by decide) ?_
  refine lv_istore_n (lv' := [(2, .int (nI 0)), (1, .int (nI 0)), (0, .ref (ad 0))]) hx hb dS_putInOrder_15 rfl hl (by decide) rfl (fun ls hl => ?_)
  have loop : ∀ k : Nat, (∀ (z : Nat) (d : Nat) (o : Nat → Nat) (M1 : Nat → Nat → Int32) (H : Heap) (locs : List Loc) (ls : Array Slot), d ≤ N → pInv M_2 M1 (fun n => ¬ M 2 n = 0 ∧ jopn (M 1) (M 3) n = true) (fun n => jprod (M 152) (jworld (M 1) (fun n => M (54 + n)) n) 2 3) d z o → N - d < k → va_P D cls3 (bw ad 162 (fun j => sc_cell cs ad j (M1 j))) H → va_S (bw_A ad 162 s.heap.size) s.heap H locs → lv_has ls 3 [(1, .int (nI z)), (2, .int (nI d)), (0, .ref (ad 0))] → W p l e (headSpec (wc yS_putInOrder cS_putInOrder 3 (some .int)) ({ frames := 5, cells := 0, slots := 0, locals := 111 } : Room)).room s m ([.ref (ad 0)] : List Value).toArray below meth c H locs 0 0 (MQ below (bQi D ad 162 (sc_cell cs ad) s.heap.size (fun r M1 => ∃ z o M0, r = nI z ∧ oInvR M M0 N r0 ∧ pInv M0 M1 (fun n => ¬ M 2 n = 0 ∧ jopn (M 1) (M 3) n = true) (fun n => jprod (M 152) (jworld (M 1) (fun n => M (54 + n)) n) 2 3) N z o)) ([.ref (ad 0)] : List Value).toArray s 0 0 (bw_A ad 162 s.heap.size)) (F0 m 16 ls [])) := by
    intro k
    induction k with
    | zero => exact by intros; omega
    | succ k ih =>
      intro z d o M1 H locs ls hd hinv hmu hP hS hl
      refine lv_iload_n hx hb dS_putInOrder_16 rfl (lv_at hl 1 rfl) ?_
      refine lv_aload_n hx hb dS_putInOrder_17 rfl (lv_at hl 2 rfl) ?_
      refine bw_get (own := RS) (ci := 1) (C := RS) (T := TS) (N := 14) (v := .int (M1 0 0)) hx hb hts inS hown hE hP 0 (by decide) rfl rfl 0 (by decide) w_88 rfl rfl dS_putInOrder_18 ?_
      refine ln_asi (nI N) (by rw [hinv.1 0 (by decide) (by decide), hR.2.1 0 (by decide)]; exact hn) ?_
      refine ln_icmp_ge (tgt := 68) hx hb dS_putInOrder_21 (by decide) (by omega) (by omega) (fun c_21 => ?_) (fun c_21 => ?_)
      · skip
        refine lv_iload_n hx hb dS_putInOrder_68 rfl (lv_at hl 0 rfl) ?_
        exact W.iret (v := nI z) hx hb hr (fun t ht hW => ⟨⟨_, M1, rfl, ⟨z, o, M_2, rfl, hR, pInv.as hinv (by omega)⟩, by show va_P _ _ _ t.heap; rw [ht]; exact hP⟩, hS.F ht⟩) hS.2.2 dS_putInOrder_69
      · skip
        refine lv_aload_n hx hb dS_putInOrder_24 rfl (lv_at hl 2 rfl) ?_
        refine lv_iload_n hx hb dS_putInOrder_25 rfl (lv_at hl 1 rfl) ?_
        refine vp_callSi (va_Run.run (bc_runV (own := RS) (C := RS) (As := [.int (nI d)]) (rest := []) hx hb (hml.trans hl.1.symm) hown hts (kS_isSeen l D cs ad hI M1 H.size d (by omega)) w_192 w_189 w_191 ws_sel_S_isSeen w_1 ⟨rfl, hd_S_isSeen⟩ rfl ⟨rfl, rfl⟩ ⟨Nat.le_of_ble_eq_true rfl, Nat.le_of_ble_eq_true rfl⟩ (fun _ _ _ _ h => h.calling) (bc_recv (r := (RS, TS, 14)) hE hP 0 (by decide) rfl rfl) (fun U hU hW => ⟨by rw [hU], by rw [hU]; exact hP, hE.warm hW⟩) rfl (Nat.le_of_ble_eq_true rfl) dS_putInOrder_26 ⟨Nat.le_of_ble_eq_true rfl, Nat.le_of_ble_eq_true rfl⟩)) (fun r_26 hr_26 => ?_)
        rw [hinv.1 2 (by decide) (by decide), hinv.1 153 (by decide) (by decide)] at hr_26
        refine lv_if_eq (tgt := 62) hx hb dS_putInOrder_29 (by decide) (fun c_29 => ?_) (fun c_29 => ?_)
        · skip
          refine lv_iinc (v := nI (d + 1)) (lv' := [(2, .int (nI (d + 1))), (1, .int (nI z)), (0, .ref (ad 0))]) hx hb dS_putInOrder_62 hl (k := 1) rfl (nI_add d 1) (by decide) rfl (fun ls hl => ?_)
          refine lv_goto (tgt := 16) hx hb dS_putInOrder_65 (by decide) ?_
          exact ih z (d + 1) o M1 H locs ls (by omega) (hinv.skip (fun hs => hr_26.f c_29 ((hR.seen (by omega)).mpr hs))) (by omega) hP hS (lv_sub hl [1, 0, 2] rfl)
        · skip
          refine lv_aload_n hx hb dS_putInOrder_32 rfl (lv_at hl 2 rfl) ?_
          refine bw_get (own := RS) (ci := 1) (C := RS) (T := TS) (N := 14) (v := .ref (ad 154)) hx hb hts inS hown hE hP 0 (by decide) rfl rfl 11 (by decide) w_99 rfl rfl dS_putInOrder_33 ?_
          refine lv_iload_n hx hb dS_putInOrder_36 rfl (lv_at hl 1 rfl) ?_
          refine lv_aload_n hx hb dS_putInOrder_37 rfl (lv_at hl 2 rfl) ?_
          refine bw_get (own := RS) (ci := 1) (C := RS) (T := TS) (N := 14) (v := .ref (ad 152)) hx hb hts inS hown hE hP 0 (by decide) rfl rfl 9 (by decide) w_97 rfl rfl dS_putInOrder_38 ?_
          refine lv_aload_n hx hb dS_putInOrder_41 rfl (lv_at hl 2 rfl) ?_
          refine bw_get (own := RS) (ci := 1) (C := RS) (T := TS) (N := 14) (v := .ref (ad 102)) hx hb hts inS hown hE hP 0 (by decide) rfl rfl 6 (by decide) w_94 rfl rfl dS_putInOrder_42 ?_
          refine lv_iload_n hx hb dS_putInOrder_45 rfl (lv_at hl 1 rfl) ?_
          refine ln_aald (L := 48) hx hb hE hP 102 2 (by decide) (rfl) rfl (by omega) (by decide) (a := ad (103 + d)) (by first | rfl | (show (if _ then _ else _) = _; rw [if_pos (by omega)])) dS_putInOrder_46 ?_
          refine lv_iconst (v := nI 2) hx hb dS_putInOrder_47 (by decide) ?_
          refine lv_iconst (v := nI 3) hx hb dS_putInOrder_48 (by decide) ?_
          refine vp_callSi (va_Run.run (bc_runS (own := RS) (As := [.ref (ad 152), .ref (ad (103 + d)), .int (nI 2), .int (nI 3)]) (rest := [.int (nI d), .ref (ad 154)]) hx hb (hml.trans hl.1.symm) hown hts (kS_productAt l D cs ad hI M1 H.size 152 (103 + d) (by decide) (by omega) (fun _ => rfl) (fun _ => sc_row103 (by omega)) 2 3 (by decide) (by decide)) w_73 w_71 w_72 w_1 hd_S_productAt rfl ⟨rfl, rfl⟩ ⟨Nat.le_of_ble_eq_true rfl, Nat.le_of_ble_eq_true rfl⟩ (fun _ _ _ _ h => h.calling) (fun U hU hW => ⟨by rw [hU], by rw [hU]; exact hP, hE.warm hW⟩) rfl (Nat.le_of_ble_eq_true rfl) dS_putInOrder_49 ⟨Nat.le_of_ble_eq_true rfl, Nat.le_of_ble_eq_true rfl⟩)) (fun r_49 hr_49 => ?_)
          rw [hinv.1 152 (by decide) (by decide), hinv.1 (103 + d) (by omega) (by omega), hR.depth hp hN (by omega)] at hr_49
          refine ln_iast (L := 48) hx hb hE hI hP hS 154 0 (by decide) (rfl) rfl (by omega) (by decide) (upd (M1 154) d r_49) (rfl) dS_putInOrder_52 (fun M_3 H locs eM_3 hP hS => ?_)
          refine lv_aload_n hx hb dS_putInOrder_53 rfl (lv_at hl 2 rfl) ?_
          refine lv_iload_n hx hb dS_putInOrder_54 rfl (lv_at hl 1 rfl) ?_
          refine lv_iload_n hx hb dS_putInOrder_55 rfl (lv_at hl 0 rfl) ?_
          refine bc_callv (bc_runV (own := RS) (C := RS) (As := [.int (nI d), .int (nI z)]) (rest := []) hx hb (hml.trans hl.1.symm) hown hts (kS_insert l D cs ad hI M_3 H.size d z o (by omega) (by have := hinv.2.1; omega) (fun j hj => ⟨by have := (hinv.2.2.2.2.1 j hj).1; omega, by rw [eM_3, va_up_ne _ _ (by decide)]; exact hinv.2.2.2.1 j hj⟩)) w_215 w_212 w_214 ws_sel_S_insert w_1 ⟨rfl, hd_S_insert⟩ rfl ⟨rfl, rfl⟩ ⟨Nat.le_of_ble_eq_true rfl, Nat.le_of_ble_eq_true rfl⟩ (fun _ _ _ _ h => h.calling) (bc_recv (r := (RS, TS, 14)) hE hP 0 (by decide) rfl rfl) (fun U hU hW => ⟨by rw [hU], by rw [hU]; exact hP, hE.warm hW⟩) rfl (Nat.le_of_ble_eq_true rfl) dS_putInOrder_56 ⟨Nat.le_of_ble_eq_true rfl, Nat.le_of_ble_eq_true rfl⟩) hS (fun M_4 H locs hr_56 hP hS => ?_)
          obtain ⟨pl, hpl⟩ := hr_56
          refine lv_iinc (v := nI (z + 1)) (lv' := [(1, .int (nI (z + 1))), (2, .int (nI d)), (0, .ref (ad 0))]) hx hb dS_putInOrder_59 hl (k := 0) rfl (nI_add z 1) (by decide) rfl (fun ls hl => ?_)
          refine lv_iinc (v := nI (d + 1)) (lv' := [(2, .int (nI (d + 1))), (1, .int (nI (z + 1))), (0, .ref (ad 0))]) hx hb dS_putInOrder_62 hl (k := 1) rfl (nI_add d 1) (by decide) rfl (fun ls hl => ?_)
          refine lv_goto (tgt := 16) hx hb dS_putInOrder_65 (by decide) ?_
          exact ih (z + 1) (d + 1) (jins o d pl) M_4 H locs ls (by omega) (hinv.ins ((hR.seen (by omega)).mp (hr_26.t c_29)) (fun n hn hs => by rw [hR.1 2 (by decide) (by decide) (by decide)]; rcases hk n (by omega) with q | q; exact absurd q hs.1; exact q) eM_3 hr_49 hpl) (by omega) hP hS (lv_sub hl [1, 0, 2] rfl)
  exact (loop 100000) 0 0 (fun _ => 0) M_2 H locs ls (by omega) (⟨fun _ _ _ => rfl, by omega, fun n hn => by omega, fun j hj => by omega, fun i hi => by omega, fun i j _ hj => by omega, fun n hn => by omega⟩) (by omega) hP hS (lv_sub hl [1, 0, 2] rfl)
end
section
/-! THE ABSTRACT STATE: how many nodes; their parents, kinds, hidden flags, nine numbers; the camera's numbers -/
abbrev Ab : Type := Nat × (Nat → Int32) × (Nat → Int32) × (Nat → Int32) × (Nat → Nat → Int32) × (Nat → Int32)
def aN (A : Ab) : Nat := A.1
def aP (A : Ab) : Nat → Int32 := A.2.1
def aK (A : Ab) : Nat → Int32 := A.2.2.1
def aH (A : Ab) : Nat → Int32 := A.2.2.2.1
def aU (A : Ab) : Nat → Nat → Int32 := A.2.2.2.2.1
def aE (A : Ab) : Nat → Int32 := A.2.2.2.2.2
def aOk (A : Ab) : Prop := aN A ≤ 48 ∧ pOk (aP A) (aN A) ∧ ∀ n, n < aN A → aK A n = 0 ∨ aK A n = nI 1 ∨ aK A n = nI 2
def clrA (A : Ab) : Ab := (0, A.2)
def addA (A : Ab) (p k : Int32) : Ab := (aN A + 1, va_up (aP A) (aN A) p, va_up (aK A) (aN A) k, va_up (aH A) (aN A) 0, va_up (aU A) (aN A) (fun j => if j < 6 then 0 else 65536), aE A)
def setA (A : Ab) (n w : Nat) (x y z : Int32) : Ab := (aN A, aP A, aK A, aH A, va_up (aU A) n (jput (aU A n) w x y z), aE A)
def hangA (A : Ab) (n : Nat) (p : Int32) : Ab := (aN A, va_up (aP A) n p, aK A, aH A, aU A, aE A)
def hideA (A : Ab) (n : Nat) (b : Int32) : Ab := (aN A, aP A, aK A, va_up (aH A) n (vp_nar .boolean b), aU A, aE A)
def camA (A : Ab) (w : Nat) (x y z : Int32) : Ab := (aN A, aP A, aK A, aH A, aU A, jput (aE A) w x y z)
def pNode (A : Ab) (n : Int32) : Prop := 0 ≤ n ∧ n < nI (aN A)
def pAdd (A : Ab) (p k : Int32) : Prop := aN A < 48 ∧ ((-1) ≤ p ∧ p < nI (aN A)) ∧ (0 ≤ k ∧ k ≤ nI 2)
def pSet (A : Ab) (n w x y z : Int32) : Prop := pNode A n ∧ (0 ≤ w ∧ w ≤ nI 2) ∧ jcan (jw w) x ∧ jcan (jw w) y ∧ jcan (jw w) z
def pHang (A : Ab) (n p : Int32) : Prop := pNode A n ∧ ((-1) ≤ p ∧ p < n)
def pCam (w x y z : Int32) : Prop := (0 ≤ w ∧ w ≤ nI 1) ∧ jcan (jw w) x ∧ jcan (jw w) y ∧ jcan (jw w) z
/-- the class's cells hold the abstract state, and its stores of LOCAL, WORLD, VIEW are right -/
def Cls (A : Ab) (M : Nat → Nat → Int32) : Prop := aOk A ∧ M 0 0 = nI (aN A) ∧ (∀ n, n < aN A → M 1 n = aP A n ∧ M 2 n = aK A n ∧ M 3 n = aH A n ∧ (∀ j, j < 9 → M (5 + n) j = aU A n j) ∧ ∀ t, t < 12 → M (54 + n) t = jlocal (aU A n) t) ∧ (∀ j, j < 9 → M 151 j = aE A j) ∧ (∀ t, t < 12 → M 152 t = jview (aE A) t) ∧ sTZ M ∧ ∃ r, r ≤ aN A ∧ M 0 7 = nI r ∧ wOk M r
theorem rng_lt {x : Int32} {a : Nat} (h0 : 0 ≤ x) (h : x < nI a) (ha : a < 2147483648) : ∃ j, j < a ∧ x = nI j := by
  rcases pk_ix x ha with q | q | q
  · simp only [Int32.lt_iff_toInt_lt, Int32.le_iff_toInt_le] at h0 q; omega
  · simp only [Int32.lt_iff_toInt_lt, Int32.le_iff_toInt_le] at h q; omega
  · exact q
theorem rng_le {x : Int32} {a : Nat} (h0 : 0 ≤ x) (h : x ≤ nI a) (ha : a < 1000000) : ∃ j, j < a + 1 ∧ x = nI j := by
  refine rng_lt h0 ?_ (by omega)
  simp only [Int32.lt_iff_toInt_lt, Int32.le_iff_toInt_le] at h ⊢
  rw [nI_toInt (by omega)] at h ⊢
  omega
theorem par_ok {x : Int32} {a : Nat} (h : (-1) ≤ x ∧ x < nI a) (ha : a < 2147483648) : x < 0 ∨ ∃ q, q < a ∧ x = nI q := by
  by_cases c : x < 0
  · exact Or.inl c
  · exact Or.inr (rng_lt (by simp only [Int32.lt_iff_toInt_lt, Int32.le_iff_toInt_le] at c ⊢; omega) h.2 ha)
theorem wOk_keep {M M1 : Nat → Nat → Int32} {r r1 : Nat} (hw : wOk M r) (hr : r1 ≤ r) (h48 : r1 ≤ 48) (hp : pOk (M 1) r1) (h1 : ∀ n, n < r1 → M1 1 n = M 1 n) (h2 : ∀ n, n < r1 → ∀ t, t < 12 → M1 (54 + n) t = M (54 + n) t) (h3 : ∀ n, n < r1 → ∀ t, t < 12 → M1 (103 + n) t = M (103 + n) t) : wOk M1 r1 := by
  intro n hn t ht
  rw [h3 n hn t ht, hw n (by omega) t ht]
  exact (jworld_congr hp (by omega) h1 h2 n hn t ht).symm
theorem sTZ_keep {M M1 : Nat → Nat → Int32} (h : sTZ M) (e : ∀ q, 157 ≤ q → q < 160 → M1 q = M q) : sTZ M1 :=
  ⟨fun t ht => by rw [e 157 (by decide) (by decide)]; exact h.1 t ht, fun t ht => by rw [e 158 (by decide) (by decide)]; exact h.2.1 t ht, fun t ht => by rw [e 159 (by decide) (by decide)]; exact h.2.2 t ht⟩
theorem jlocal_congr {u u' : Nat → Int32} (h : ∀ j, j < 9 → u j = u' j) {t : Nat} (ht : t < 12) : jlocal u t = jlocal u' t := by
  unfold jlocal
  rw [h 3 (by decide), h 4 (by decide), h 5 (by decide)]
  exact jlc_congr (fun _ _ => rfl) h (by omega) (by omega)
theorem jview_congr {u u' : Nat → Int32} (h : ∀ j, j < 9 → u j = u' j) {t : Nat} (ht : t < 12) : jview u t = jview u' t := by
  unfold jview
  rw [h 3 (by decide), h 4 (by decide), h 5 (by decide)]
  exact jvc_congr (fun _ _ => rfl) h (by omega) (by omega)
theorem jput_congr {u u' : Nat → Int32} (h : ∀ j, j < 9 → u j = u' j) (w : Nat) (x y z : Int32) {j : Nat} (hj : j < 9) : jput u w x y z j = jput u' w x y z j := by
  unfold jput upd
  by_cases c1 : j = 3 * w + 2
  · simp [c1]
  · by_cases c2 : j = 3 * w + 1
    · simp [c2]
    · by_cases c3 : j = 3 * w
      · simp [c3]
      · simp [c1, c2, c3, h j hj]
theorem pOk_le {par : Nat → Int32} {N r : Nat} (h : pOk par N) (hr : r ≤ N) : pOk par r := fun n hn => h n (by omega)
theorem Cls.pok {A : Ab} {M : Nat → Nat → Int32} (h : Cls A M) : pOk (M 1) (aN A) := fun n hn => by rw [(h.2.2.1 n hn).1]; exact h.1.2.1 n hn
theorem Cls.kok {A : Ab} {M : Nat → Nat → Int32} (h : Cls A M) : ∀ n, n < aN A → M 2 n = 0 ∨ M 2 n = nI 1 ∨ M 2 n = nI 2 := fun n hn => by rw [(h.2.2.1 n hn).2.1]; exact h.1.2.2 n hn
theorem Cls.clr {A : Ab} {M M1 M2 : Nat → Nat → Int32} (h : Cls A M) (e1 : M1 = va_up M 0 (upd (M 0) 0 (nI 0))) (e2 : M2 = va_up M1 0 (upd (M1 0) 7 (nI 0))) : Cls (clrA A) M2 := by
  have f : ∀ q, q ≠ 0 → M2 q = M q := fun q hq => by rw [e2, va_up_ne _ _ hq, e1, va_up_ne _ _ hq]
  obtain ⟨a1, a2, a3, a4, a5, a6, a7⟩ := h
  refine ⟨⟨Nat.zero_le _, fun n hn => absurd hn (Nat.not_lt_zero _), fun n hn => absurd hn (Nat.not_lt_zero _)⟩, ?_, fun n hn => absurd hn (Nat.not_lt_zero _), fun j hj => by rw [f 151 (by decide)]; exact a4 j hj, fun t ht => by rw [f 152 (by decide)]; exact a5 t ht, sTZ_keep a6 (fun q h1 _ => f q (by omega)), 0, Nat.zero_le _, ?_, fun n hn => absurd hn (Nat.not_lt_zero _)⟩
  · rw [e2, va_up_self, pk_un (by decide), e1, va_up_self, pk_us]; rfl
  · rw [e2, va_up_self, pk_us]
theorem Cls.set {A : Ab} {M M1 M2 M3 : Nat → Nat → Int32} {j w r : Nat} {x y z : Int32} (h : Cls A M) (hj : j < aN A) (hr : r ≤ aN A) (hw : wOk M r) (e1 : M1 = va_up M (5 + j) (jput (M (5 + j)) w x y z)) (h2 : (∀ q, q < 157 → q ≠ 54 + j → M2 q = M1 q) ∧ sTZ M2 ∧ ∀ t, t < 12 → M2 (54 + j) t = jlocal (M1 (5 + j)) t) (e3 : M3 = va_up M2 0 (upd (M2 0) 7 (nI (min r j)))) : Cls (setA A j w x y z) M3 := by
  have hpk := h.pok
  obtain ⟨a1, a2, a3, a4, a5, a6, -⟩ := h
  have hN := a1.1
  have f : ∀ q, q ≠ 0 → q < 157 → q ≠ 5 + j → q ≠ 54 + j → M3 q = M q := fun q h0 h1 h3 h4 => by rw [e3, va_up_ne _ _ h0, h2.1 q h1 h4, e1, va_up_ne _ _ h3]
  have f0 : ∀ t, t ≠ 7 → M3 0 t = M 0 t := fun t ht => by rw [e3, va_up_self, pk_un ht, h2.1 0 (by decide) (by omega), e1, va_up_ne _ _ (by omega)]
  have fu : M3 (5 + j) = jput (M (5 + j)) w x y z := by rw [e3, va_up_ne _ _ (by omega), h2.1 (5 + j) (by omega) (by omega), e1, va_up_self]
  have fl : ∀ t, t < 12 → M3 (54 + j) t = jlocal (jput (M (5 + j)) w x y z) t := fun t ht => by rw [e3, va_up_ne _ _ (by omega), h2.2.2 t ht, e1, va_up_self]
  have fjp : ∀ i, i < 9 → jput (M (5 + j)) w x y z i = jput (aU A j) w x y z i := fun i hi => jput_congr (a3 j hj).2.2.2.1 w x y z hi
  refine ⟨a1, by rw [f0 0 (by decide)]; exact a2, fun n hn => ?_, fun i hi => by rw [f 151 (by decide) (by decide) (by omega) (by omega)]; exact a4 i hi, fun t ht => by rw [f 152 (by decide) (by decide) (by omega) (by omega)]; exact a5 t ht, sTZ_keep h2.2.1 (fun q h1 _ => by rw [e3, va_up_ne _ _ (by omega)]), min r j, (show min r j ≤ aN A by omega), by rw [e3, va_up_self, pk_us], ?_⟩
  · have hn' : n < aN A := hn
    obtain ⟨b1, b2, b3, b4, b5⟩ := a3 n hn'
    refine ⟨by rw [f 1 (by decide) (by decide) (by omega) (by omega)]; exact b1, by rw [f 2 (by decide) (by decide) (by omega) (by omega)]; exact b2, by rw [f 3 (by decide) (by decide) (by omega) (by omega)]; exact b3, fun i hi => ?_, fun t ht => ?_⟩
    · by_cases c : n = j
      · subst c
        rw [fu]
        show _ = va_up (aU A) n (jput (aU A n) w x y z) n i
        rw [va_up_self]; exact fjp i hi
      · rw [f (5 + n) (by omega) (by omega) (by omega) (by omega)]
        show _ = va_up (aU A) j _ n i
        rw [va_up_ne _ _ c]; exact b4 i hi
    · by_cases c : n = j
      · subst c
        rw [fl t ht]
        show _ = jlocal (va_up (aU A) n (jput (aU A n) w x y z) n) t
        rw [va_up_self]; exact jlocal_congr fjp ht
      · rw [f (54 + n) (by omega) (by omega) (by omega) (by omega)]
        show _ = jlocal (va_up (aU A) j _ n) t
        rw [va_up_ne _ _ c]; exact b5 t ht
  · exact wOk_keep hw (by omega) (by omega) (pOk_le hpk (by omega)) (fun n hn => by rw [f 1 (by decide) (by decide) (by omega) (by omega)]) (fun n hn t _ => by rw [f (54 + n) (by omega) (by omega) (by omega) (by omega)]) (fun n hn t _ => by rw [f (103 + n) (by omega) (by omega) (by omega) (by omega)])
theorem Cls.hang {A : Ab} {M M1 M2 : Nat → Nat → Int32} {j r : Nat} {p : Int32} (h : Cls A M) (hj : j < aN A) (hp : (-1) ≤ p ∧ p < nI j) (hr : r ≤ aN A) (hw : wOk M r) (e1 : M1 = va_up M 1 (upd (M 1) j p)) (e2 : M2 = va_up M1 0 (upd (M1 0) 7 (nI (min r j)))) : Cls (hangA A j p) M2 := by
  have hpk := h.pok
  obtain ⟨a1, a2, a3, a4, a5, a6, -⟩ := h
  have hN := a1.1
  have f : ∀ q, q ≠ 0 → q ≠ 1 → M2 q = M q := fun q h0 h1 => by rw [e2, va_up_ne _ _ h0, e1, va_up_ne _ _ h1]
  have f0 : ∀ t, t ≠ 7 → M2 0 t = M 0 t := fun t ht => by rw [e2, va_up_self, pk_un ht, e1, va_up_ne _ _ (by decide)]
  have f1 : M2 1 = upd (M 1) j p := by rw [e2, va_up_ne _ _ (by decide), e1, va_up_self]
  refine ⟨⟨a1.1, fun n hn => ?_, a1.2.2⟩, by rw [f0 0 (by decide)]; exact a2, fun n hn => ?_, fun i hi => by rw [f 151 (by decide) (by decide)]; exact a4 i hi, fun t ht => by rw [f 152 (by decide) (by decide)]; exact a5 t ht, sTZ_keep a6 (fun q h1 _ => f q (by omega) (by omega)), min r j, (show min r j ≤ aN A by omega), by rw [e2, va_up_self, pk_us], ?_⟩
  · show va_up (aP A) j p n < 0 ∨ ∃ q, q < n ∧ va_up (aP A) j p n = nI q
    by_cases c : n = j
    · subst c; rw [va_up_self]; exact par_ok hp (by omega)
    · rw [va_up_ne _ _ c]; exact a1.2.1 n hn
  · obtain ⟨b1, b2, b3, b4, b5⟩ := a3 n hn
    refine ⟨?_, by rw [f 2 (by decide) (by decide)]; exact b2, by rw [f 3 (by decide) (by decide)]; exact b3, fun i hi => by rw [f (5 + n) (by omega) (by omega)]; exact b4 i hi, fun t ht => by rw [f (54 + n) (by omega) (by omega)]; exact b5 t ht⟩
    show M2 1 n = va_up (aP A) j p n
    rw [f1]
    by_cases c : n = j
    · subst c; rw [va_up_self, pk_us]
    · rw [va_up_ne _ _ c, pk_un c]; exact b1
  · exact wOk_keep hw (by omega) (by omega) (pOk_le hpk (by omega)) (fun n hn => by rw [f1, pk_un (by omega)]) (fun n hn t _ => by rw [f (54 + n) (by omega) (by omega)]) (fun n hn t _ => by rw [f (103 + n) (by omega) (by omega)])
theorem Cls.hide {A : Ab} {M M1 : Nat → Nat → Int32} {j : Nat} {b : Int32} (h : Cls A M) (hj : j < aN A) (e1 : M1 = va_up M 3 (upd (M 3) j (vp_nar .boolean b))) : Cls (hideA A j b) M1 := by
  have hpk := h.pok
  obtain ⟨a1, a2, a3, a4, a5, a6, r, a7, a8, a9⟩ := h
  have hN := a1.1
  have f : ∀ q, q ≠ 3 → M1 q = M q := fun q h0 => by rw [e1, va_up_ne _ _ h0]
  refine ⟨a1, by rw [f 0 (by decide)]; exact a2, fun n hn => ?_, fun i hi => by rw [f 151 (by decide)]; exact a4 i hi, fun t ht => by rw [f 152 (by decide)]; exact a5 t ht, sTZ_keep a6 (fun q h1 _ => f q (by omega)), r, a7, by rw [f 0 (by decide)]; exact a8, wOk_keep a9 (Nat.le_refl _) (by omega) (pOk_le hpk a7) (fun n hn => by rw [f 1 (by decide)]) (fun n hn t _ => by rw [f (54 + n) (by omega)]) (fun n hn t _ => by rw [f (103 + n) (by omega)])⟩
  obtain ⟨b1, b2, b3, b4, b5⟩ := a3 n hn
  refine ⟨by rw [f 1 (by decide)]; exact b1, by rw [f 2 (by decide)]; exact b2, ?_, fun i hi => by rw [f (5 + n) (by omega)]; exact b4 i hi, fun t ht => by rw [f (54 + n) (by omega)]; exact b5 t ht⟩
  show M1 3 n = va_up (aH A) j _ n
  rw [e1, va_up_self]
  by_cases c : n = j
  · subst c; rw [va_up_self, pk_us]
  · rw [va_up_ne _ _ c, pk_un c]; exact b3
theorem Cls.cam {A : Ab} {M M1 M2 : Nat → Nat → Int32} {w : Nat} {x y z : Int32} (h : Cls A M) (e1 : M1 = va_up M 151 (jput (M 151) w x y z)) (h2 : (∀ q, q < 157 → q ≠ 152 → M2 q = M1 q) ∧ sTZ M2 ∧ ∀ t, t < 12 → M2 152 t = jview (M1 151) t) : Cls (camA A w x y z) M2 := by
  have hpk := h.pok
  obtain ⟨a1, a2, a3, a4, a5, a6, r, a7, a8, a9⟩ := h
  have hN := a1.1
  have f : ∀ q, q < 157 → q ≠ 151 → q ≠ 152 → M2 q = M q := fun q h0 h1 h3 => by rw [h2.1 q h0 h3, e1, va_up_ne _ _ h1]
  have fe : ∀ i, i < 9 → M2 151 i = jput (aE A) w x y z i := fun i hi => by rw [h2.1 151 (by decide) (by decide), e1, va_up_self]; exact jput_congr a4 w x y z hi
  refine ⟨a1, by rw [f 0 (by decide) (by decide) (by decide)]; exact a2, fun n hn => ?_, fe, fun t ht => ?_, h2.2.1, r, a7, by rw [f 0 (by decide) (by decide) (by decide)]; exact a8, wOk_keep a9 (Nat.le_refl _) (by omega) (pOk_le hpk a7) (fun n hn => by rw [f 1 (by decide) (by decide) (by decide)]) (fun n hn t _ => by rw [f (54 + n) (by omega) (by omega) (by omega)]) (fun n hn t _ => by rw [f (103 + n) (by omega) (by omega) (by omega)])⟩
  · have hn' : n < aN A := hn
    obtain ⟨b1, b2, b3, b4, b5⟩ := a3 n hn
    exact ⟨by rw [f 1 (by decide) (by decide) (by decide)]; exact b1, by rw [f 2 (by decide) (by decide) (by decide)]; exact b2, by rw [f 3 (by decide) (by decide) (by decide)]; exact b3, fun i hi => by rw [f (5 + n) (by omega) (by omega) (by omega)]; exact b4 i hi, fun t ht => by rw [f (54 + n) (by omega) (by omega) (by omega)]; exact b5 t ht⟩
  · rw [h2.2.2 t ht, e1, va_up_self]
    exact jview_congr (fun i hi => jput_congr a4 w x y z hi) ht
theorem Cls.add {A : Ab} {M M1 M2 M3 M4 M5 M6 M7 M8 : Nat → Nat → Int32} {p k : Int32} (h : Cls A M) (hN : aN A < 48) (hp : (-1) ≤ p ∧ p < nI (aN A)) (hk : 0 ≤ k ∧ k ≤ nI 2) (e1 : M1 = va_up M 0 (upd (M 0) 0 (nI (aN A + 1)))) (e2 : M2 = va_up M1 1 (upd (M1 1) (aN A) p)) (e3 : M3 = va_up M2 2 (upd (M2 2) (aN A) k)) (e4 : M4 = va_up M3 3 (upd (M3 3) (aN A) (vp_nar .boolean (nI 0)))) (e5 : M5 = va_up M4 (5 + aN A) (jput (M4 (5 + aN A)) 0 (nI 0) (nI 0) (nI 0))) (e6 : M6 = va_up M5 (5 + aN A) (jput (M5 (5 + aN A)) 1 (nI 0) (nI 0) (nI 0))) (e7 : M7 = va_up M6 (5 + aN A) (jput (M6 (5 + aN A)) 2 65536 65536 65536)) (h8 : (∀ q, q < 157 → q ≠ 54 + aN A → M8 q = M7 q) ∧ sTZ M8 ∧ ∀ t, t < 12 → M8 (54 + aN A) t = jlocal (M7 (5 + aN A)) t) : Cls (addA A p k) M8 := by
  have hpk := h.pok
  obtain ⟨a1, a2, a3, a4, a5, a6, r, a7, a8, a9⟩ := h
  have f : ∀ q, q ≠ 0 → q ≠ 1 → q ≠ 2 → q ≠ 3 → q ≠ 5 + aN A → q ≠ 54 + aN A → q < 157 → M8 q = M q := fun q h0 h1 h2 h3 h4 h5 h6 => by rw [h8.1 q h6 h5, e7, va_up_ne _ _ h4, e6, va_up_ne _ _ h4, e5, va_up_ne _ _ h4, e4, va_up_ne _ _ h3, e3, va_up_ne _ _ h2, e2, va_up_ne _ _ h1, e1, va_up_ne _ _ h0]
  have g7 : ∀ q, q ≠ 5 + aN A → M7 q = M4 q := fun q hq => by rw [e7, va_up_ne _ _ hq, e6, va_up_ne _ _ hq, e5, va_up_ne _ _ hq]
  have f0 : M8 0 = upd (M 0) 0 (nI (aN A + 1)) := by rw [h8.1 0 (by decide) (by omega), g7 0 (by omega), e4, va_up_ne _ _ (by decide), e3, va_up_ne _ _ (by decide), e2, va_up_ne _ _ (by decide), e1, va_up_self]
  have f1 : M8 1 = upd (M 1) (aN A) p := by rw [h8.1 1 (by decide) (by omega), g7 1 (by omega), e4, va_up_ne _ _ (by decide), e3, va_up_ne _ _ (by decide), e2, va_up_self, e1, va_up_ne _ _ (by decide)]
  have f2 : M8 2 = upd (M 2) (aN A) k := by rw [h8.1 2 (by decide) (by omega), g7 2 (by omega), e4, va_up_ne _ _ (by decide), e3, va_up_self, e2, va_up_ne _ _ (by decide), e1, va_up_ne _ _ (by decide)]
  have f3 : M8 3 = upd (M 3) (aN A) (vp_nar .boolean (nI 0)) := by rw [h8.1 3 (by decide) (by omega), g7 3 (by omega), e4, va_up_self, e3, va_up_ne _ _ (by decide), e2, va_up_ne _ _ (by decide), e1, va_up_ne _ _ (by decide)]
  have fu : ∀ j, j < 9 → M7 (5 + aN A) j = if j < 6 then 0 else 65536 := by
    intro j hj
    rw [e7, va_up_self, e6, va_up_self, e5, va_up_self]
    rcases (show j = 0 ∨ j = 1 ∨ j = 2 ∨ j = 3 ∨ j = 4 ∨ j = 5 ∨ j = 6 ∨ j = 7 ∨ j = 8 by omega) with rfl | rfl | rfl | rfl | rfl | rfl | rfl | rfl | rfl <;> rfl
  have hk3 : k = 0 ∨ k = nI 1 ∨ k = nI 2 := by
    obtain ⟨q, hq, rfl⟩ := rng_le hk.1 hk.2 (by decide)
    rcases (show q = 0 ∨ q = 1 ∨ q = 2 by omega) with rfl | rfl | rfl
    · exact Or.inl rfl
    · exact Or.inr (Or.inl rfl)
    · exact Or.inr (Or.inr rfl)
  refine ⟨⟨(show aN A + 1 ≤ 48 by omega), fun n hn => ?_, fun n hn => ?_⟩, by rw [f0, pk_us]; rfl, fun n hn => ?_, fun i hi => by rw [f 151 (by decide) (by decide) (by decide) (by decide) (by omega) (by omega) (by decide)]; exact a4 i hi, fun t ht => by rw [f 152 (by decide) (by decide) (by decide) (by decide) (by omega) (by omega) (by decide)]; exact a5 t ht, h8.2.1, r, (show r ≤ aN A + 1 by omega), by rw [f0, pk_un (by decide)]; exact a8, ?_⟩
  · have hn' : n < aN A + 1 := hn
    show va_up (aP A) (aN A) p n < 0 ∨ ∃ q, q < n ∧ va_up (aP A) (aN A) p n = nI q
    by_cases c : n = aN A
    · rw [c, va_up_self]; exact par_ok hp (by omega)
    · rw [va_up_ne _ _ c]; exact a1.2.1 n (by omega)
  · have hn' : n < aN A + 1 := hn
    show va_up (aK A) (aN A) k n = 0 ∨ va_up (aK A) (aN A) k n = nI 1 ∨ va_up (aK A) (aN A) k n = nI 2
    by_cases c : n = aN A
    · rw [c, va_up_self]; exact hk3
    · rw [va_up_ne _ _ c]; exact a1.2.2 n (by omega)
  · have hn' : n < aN A + 1 := hn
    show M8 1 n = va_up (aP A) (aN A) p n ∧ M8 2 n = va_up (aK A) (aN A) k n ∧ M8 3 n = va_up (aH A) (aN A) 0 n ∧ (∀ j, j < 9 → M8 (5 + n) j = va_up (aU A) (aN A) (fun j => if j < 6 then 0 else 65536) n j) ∧ ∀ t, t < 12 → M8 (54 + n) t = jlocal (va_up (aU A) (aN A) (fun j => if j < 6 then 0 else 65536) n) t
    by_cases c : n = aN A
    · rw [c, f1, f2, f3]
      simp only [va_up_self, pk_us]
      refine ⟨trivial, trivial, by decide, fun j hj => by rw [h8.1 (5 + aN A) (by omega) (by omega)]; exact fu j hj, fun t ht => by rw [h8.2.2 t ht]; exact jlocal_congr fu ht⟩
    · obtain ⟨b1, b2, b3, b4, b5⟩ := a3 n (by omega)
      rw [f1, f2, f3, va_up_ne _ _ c, va_up_ne _ _ c, va_up_ne _ _ c, va_up_ne _ _ c, pk_un c, pk_un c, pk_un c, f (5 + n) (by omega) (by omega) (by omega) (by omega) (by omega) (by omega) (by omega), f (54 + n) (by omega) (by omega) (by omega) (by omega) (by omega) (by omega) (by omega)]
      exact ⟨b1, b2, b3, b4, b5⟩
  · exact wOk_keep a9 (Nat.le_refl _) (by omega) (pOk_le hpk a7) (fun n hn => by rw [f1, pk_un (by omega)]) (fun n hn t _ => by rw [f (54 + n) (by omega) (by omega) (by omega) (by omega) (by omega) (by omega) (by omega)]) (fun n hn t _ => by rw [f (103 + n) (by omega) (by omega) (by omega) (by omega) (by omega) (by omega) (by omega)])

set_option maxHeartbeats 4000000 in
set_option maxRecDepth 100000 in
theorem kS_count (l : Launch) (D : va_G) (cs : Nat → ClassId) (ad : Nat → Nat) (hI : bw_I ad 162) (M : Nat → Nat → Int32) (sz : Nat) (A : Ab) (hC : Cls A M)  : Met l yS_count (wc yS_count cS_count 1 (some .int)) ({ frames := 0, cells := 0, slots := 0, locals := 0 } : Room) (va_Pc [.ref (ad 0)] (sP D cs ad M sz)) (vp_Si (fun r => r = nI (aN A))) 0 0 (fun _ => False) := by
  refine Met.ofW (cc := cS_count) (maxL := 1) (ret := (some .int)) (by decide +kernel) rfl ?_
  intro p e s m args below meth c s₁ B hml hv
  obtain ⟨rfl, hsz, hP, hE⟩ := hv
  subst hsz
  have hx := B.exec
  have hb := B.bytes
  have hr := B.returns
  have hts : ∀ w9 ∈ ws_all, w9.before ([.ref (ad 0)] : List Value).toArray s = true := fun w9 h => atoms_spec (ws := (wc yS_count cS_count 1 (some .int))) B.pre w9 (List.mem_cons_of_mem _ h)
  have hown : s.vm.findClass RS = some m.cls := findClass_of_methodNamed B.named
  have hlocks := B.notSynchronized
  have hl := lv_entry ([.ref (ad 0)]) (n := 1) (Nat.le_of_ble_eq_true rfl)
  rw [lg_entry_eq]
  generalize (lg_sl ([.ref (ad 0)]) ++ List.replicate (1 - (lg_sl ([.ref (ad 0)])).length) Slot.unset).toArray = ls at hl ⊢
  have hl : lv_has ls 1 [(0, .ref (ad 0))] := hl
  obtain ⟨hA, hn, hrow, heye, hview, hz, rr, hrr, hr7, hw⟩ := id hC
  have hN : aN A ≤ 48 := hA.1
  refine lv_aload_n hx hb dS_count_0 rfl (lv_at hl 0 rfl) ?_
  refine bw_get (own := RS) (ci := 1) (C := RS) (T := TS) (N := 14) (v := .int (M 0 0)) hx hb hts inS hown hE hP 0 (by decide) rfl rfl 0 (by decide) w_88 rfl rfl dS_count_1 ?_
  exact W.iret (v := M 0 0) hx hb hr (fun t ht hW => ⟨_, rfl, hn, ht⟩) (fun _ h => nomatch h) dS_count_4

set_option maxHeartbeats 4000000 in
set_option maxRecDepth 100000 in
theorem kS_clear (l : Launch) (D : va_G) (cs : Nat → ClassId) (ad : Nat → Nat) (hI : bw_I ad 162) (M : Nat → Nat → Int32) (sz : Nat) (A : Ab) (hC : Cls A M)  : Met l yS_clear (wc yS_clear cS_clear 1 none) ({ frames := 0, cells := 0, slots := 0, locals := 0 } : Room) (va_Pc [.ref (ad 0)] (sP D cs ad M sz)) (bQv D ad 162 (sc_cell cs ad) sz (fun M1 => Cls (clrA A) M1)) 0 0 (bw_A ad 162 sz) := by
  refine Met.ofW (cc := cS_clear) (maxL := 1) (ret := none) (by decide +kernel) rfl ?_
  intro p e s m args below meth c s₁ B hml hv
  obtain ⟨rfl, hsz, hP, hE⟩ := hv
  subst hsz
  have hx := B.exec
  have hb := B.bytes
  have hr := B.returns
  have hts : ∀ w9 ∈ ws_all, w9.before ([.ref (ad 0)] : List Value).toArray s = true := fun w9 h => atoms_spec (ws := (wc yS_clear cS_clear 1 none)) B.pre w9 (List.mem_cons_of_mem _ h)
  have hown : s.vm.findClass RS = some m.cls := findClass_of_methodNamed B.named
  have hlocks := B.notSynchronized
  have hS : va_S (bw_A ad 162 s.heap.size) s.heap s.heap [] := va_S.rf
  have hl := lv_entry ([.ref (ad 0)]) (n := 1) (Nat.le_of_ble_eq_true rfl)
  rw [lg_entry_eq]
  generalize (lg_sl ([.ref (ad 0)]) ++ List.replicate (1 - (lg_sl ([.ref (ad 0)])).length) Slot.unset).toArray = ls at hl ⊢
  have hl : lv_has ls 1 [(0, .ref (ad 0))] := hl
  refine lv_aload_n hx hb dS_clear_0 rfl (lv_at hl 0 rfl) ?_
  refine lv_iconst (v := nI 0) hx hb dS_clear_1 (by decide) ?_
  refine bw_put (own := RS) (ci := 1) (C := RS) (T := TS) (N := 14) (v := .int (nI 0)) (ty := .int) hx hb hts inS tyS tyS_ok nmS hown hE hI hP hS 0 (by decide) rfl rfl 0 (by decide) w_88 rfl rfl (upd (M 0) 0 (nI 0)) rfl (by decide +kernel) rfl rfl (Nat.le_of_ble_eq_true rfl) dS_clear_2 (fun M_1 H locs eM_1 hP hS => ?_)
  refine lv_aload_n hx hb dS_clear_5 rfl (lv_at hl 0 rfl) ?_
  refine lv_iconst (v := nI 0) hx hb dS_clear_6 (by decide) ?_
  refine bw_put (own := RS) (ci := 1) (C := RS) (T := TS) (N := 14) (v := .int (nI 0)) (ty := .int) hx hb hts inS tyS tyS_ok nmS hown hE hI hP hS 0 (by decide) rfl rfl 7 (by decide) w_95 rfl rfl (upd (M_1 0) 7 (nI 0)) rfl (by decide +kernel) rfl rfl (Nat.le_of_ble_eq_true rfl) dS_clear_7 (fun M_2 H locs eM_2 hP hS => ?_)
  exact W.vret hx hb hr (fun t ht hW => ⟨⟨M_2, rfl, hC.clr eM_1 eM_2, by show va_P _ _ _ t.heap; rw [ht]; exact hP⟩, hS.F ht⟩) hS.2.2 dS_clear_10

set_option maxHeartbeats 4000000 in
set_option maxRecDepth 100000 in
theorem kS_set (l : Launch) (D : va_G) (cs : Nat → ClassId) (ad : Nat → Nat) (hI : bw_I ad 162) (M : Nat → Nat → Int32) (sz : Nat) (A : Ab) (hC : Cls A M) (n q x y z : Int32)  : Met l yS_set (wc yS_set cS_set 6 (some .boolean)) ({ frames := 6, cells := 0, slots := 0, locals := 136 } : Room) (va_Pc [.ref (ad 0), .int n, .int q, .int x, .int y, .int z] (sP D cs ad M sz)) (bQi D ad 162 (sc_cell cs ad) sz (fun r M1 => (r = nI 1 ∧ pSet A n q x y z ∧ Cls (setA A n.toNatClampNeg q.toNatClampNeg x y z) M1) ∨ (r = nI 0 ∧ ¬ pSet A n q x y z ∧ Cls A M1))) 0 0 (bw_A ad 162 sz) := by
  refine Met.ofW (cc := cS_set) (maxL := 6) (ret := (some .boolean)) (by decide +kernel) rfl ?_
  intro p e s m args below meth c s₁ B hml hv
  obtain ⟨rfl, hsz, hP, hE⟩ := hv
  subst hsz
  have hx := B.exec
  have hb := B.bytes
  have hr := B.returns
  have hts : ∀ w9 ∈ ws_all, w9.before ([.ref (ad 0), .int n, .int q, .int x, .int y, .int z] : List Value).toArray s = true := fun w9 h => atoms_spec (ws := (wc yS_set cS_set 6 (some .boolean))) B.pre w9 (List.mem_cons_of_mem _ h)
  have hown : s.vm.findClass RS = some m.cls := findClass_of_methodNamed B.named
  have hlocks := B.notSynchronized
  have hS : va_S (bw_A ad 162 s.heap.size) s.heap s.heap [] := va_S.rf
  have hl := lv_entry ([.ref (ad 0), .int n, .int q, .int x, .int y, .int z]) (n := 6) (Nat.le_of_ble_eq_true rfl)
  rw [lg_entry_eq]
  generalize (lg_sl ([.ref (ad 0), .int n, .int q, .int x, .int y, .int z]) ++ List.replicate (6 - (lg_sl ([.ref (ad 0), .int n, .int q, .int x, .int y, .int z])).length) Slot.unset).toArray = ls at hl ⊢
  have hl : lv_has ls 6 [(0, .ref (ad 0)), (1, .int n), (2, .int q), (3, .int x), (4, .int y), (5, .int z)] := hl
  obtain ⟨hA, hn, hrow, heye, hview, hz, rr, hrr, hr7, hw⟩ := id hC
  have hN : aN A ≤ 48 := hA.1
  refine lv_aload_n hx hb dS_set_0 rfl (lv_at hl 0 rfl) ?_
  refine lv_iload_n hx hb dS_set_1 rfl (lv_at hl 1 rfl) ?_
  refine vp_callSi (va_Run.run (bc_runV (own := RS) (C := RS) (As := [.int n]) (rest := []) hx hb (hml.trans hl.1.symm) hown hts (kS_isNode l D cs ad hI M s.heap.size n) w_157 w_154 w_156 ws_sel_S_isNode w_1 ⟨rfl, hd_S_isNode⟩ rfl ⟨rfl, rfl⟩ ⟨Nat.le_of_ble_eq_true rfl, Nat.le_of_ble_eq_true rfl⟩ (fun _ _ _ _ h => h.calling) (bc_recv (r := (RS, TS, 14)) hE hP 0 (by decide) rfl rfl) (fun U hU hW => ⟨by rw [hU], by rw [hU]; exact hP, hE.warm hW⟩) rfl (Nat.le_of_ble_eq_true rfl) dS_set_2 ⟨Nat.le_of_ble_eq_true rfl, Nat.le_of_ble_eq_true rfl⟩)) (fun r_2 hr_2 => ?_)
  rw [hn] at hr_2
  refine lv_if_eq (tgt := 29) hx hb dS_set_5 (by decide) (fun c_5 => ?_) (fun c_5 => ?_)
  · skip
    refine lv_iconst (v := nI 0) hx hb dS_set_29 (by decide) ?_
    exact W.zret (v := nI 0) (ty := .boolean) hx hb hr (by decide) (fun t ht hW => ⟨⟨_, M, rfl, Or.inr ⟨rfl, fun h9 => hr_2.f c_5 h9.1, hC⟩, by show va_P _ _ _ t.heap; rw [ht]; exact hP⟩, hS.F ht⟩) hS.2.2 dS_set_30
  · skip
    refine lv_iload_n hx hb dS_set_8 rfl (lv_at hl 2 rfl) ?_
    refine lv_if_lt (tgt := 29) hx hb dS_set_9 (by decide) (fun c_9 => ?_) (fun c_9 => ?_)
    · skip
      refine lv_iconst (v := nI 0) hx hb dS_set_29 (by decide) ?_
      exact W.zret (v := nI 0) (ty := .boolean) hx hb hr (by decide) (fun t ht hW => ⟨⟨_, M, rfl, Or.inr ⟨rfl, fun h9 => by have := h9.2.1.1; simp only [Int32.lt_iff_toInt_lt, Int32.le_iff_toInt_le, nI, Int32.reduceOfNat, Int32.reduceToInt] at c_9 this; omega, hC⟩, by show va_P _ _ _ t.heap; rw [ht]; exact hP⟩, hS.F ht⟩) hS.2.2 dS_set_30
    · skip
      refine lv_iload_n hx hb dS_set_12 rfl (lv_at hl 2 rfl) ?_
      refine lv_iconst (v := nI 2) hx hb dS_set_13 (by decide) ?_
      refine lv_icmp_gt (tgt := 29) hx hb dS_set_14 (by decide) (fun c_14 => ?_) (fun c_14 => ?_)
      · skip
        refine lv_iconst (v := nI 0) hx hb dS_set_29 (by decide) ?_
        exact W.zret (v := nI 0) (ty := .boolean) hx hb hr (by decide) (fun t ht hW => ⟨⟨_, M, rfl, Or.inr ⟨rfl, fun h9 => by have := h9.2.1.2; simp only [Int32.lt_iff_toInt_lt, Int32.le_iff_toInt_le, nI, Int32.reduceOfNat, Int32.reduceToInt] at c_14 this; omega, hC⟩, by show va_P _ _ _ t.heap; rw [ht]; exact hP⟩, hS.F ht⟩) hS.2.2 dS_set_30
      · skip
        refine lv_iload_n hx hb dS_set_17 rfl (lv_at hl 2 rfl) ?_
        refine lv_iload_n hx hb dS_set_18 rfl (lv_at hl 3 rfl) ?_
        refine lv_iload hx hb dS_set_19 (lv_at hl 4 rfl) ?_
        refine lv_iload hx hb dS_set_21 (lv_at hl 5 rfl) ?_
        refine vp_callSi (va_Run.run (bc_runS (own := RS) (As := [.int q, .int x, .int y, .int z]) (rest := []) hx hb (hml.trans hl.1.symm) hown hts (kS_canBe l q x y z) w_160 w_158 w_159 w_1 hd_S_canBe rfl ⟨rfl, rfl⟩ ⟨Nat.le_of_ble_eq_true rfl, Nat.le_of_ble_eq_true rfl⟩ (fun _ _ _ _ _ => trivial) (fun _ _ _ => trivial) rfl (Nat.le_of_ble_eq_true rfl) dS_set_23 ⟨Nat.le_of_ble_eq_true rfl, Nat.le_of_ble_eq_true rfl⟩)) (fun r_23 hr_23 => ?_)
        refine lv_if_ne (tgt := 31) hx hb dS_set_26 (by decide) (fun c_26 => ?_) (fun c_26 => ?_)
        · skip
          have hp9 : pSet A n q x y z := ⟨hr_2.t c_5, by simp only [Int32.lt_iff_toInt_lt, Int32.le_iff_toInt_le, nI, Int32.reduceOfNat, Int32.reduceToInt] at c_9 c_14 ⊢; omega, hr_23.t c_26⟩
          obtain ⟨j, hj, rfl⟩ := rng_lt hp9.1.1 hp9.1.2 (by omega)
          obtain ⟨u, hu, rfl⟩ := rng_le hp9.2.1.1 hp9.2.1.2 (by decide)
          refine lv_aload_n hx hb dS_set_31 rfl (lv_at hl 0 rfl) ?_
          refine bw_get (own := RS) (ci := 1) (C := RS) (T := TS) (N := 14) (v := .ref (ad 4)) hx hb hts inS hown hE hP 0 (by decide) rfl rfl 4 (by decide) w_92 rfl rfl dS_set_32 ?_
          refine lv_iload_n hx hb dS_set_35 rfl (lv_at hl 1 rfl) ?_
          refine ln_aald (L := 48) hx hb hE hP 4 2 (by decide) (rfl) rfl (by omega) (by decide) (a := ad (5 + j)) (by first | rfl | (show (if _ then _ else _) = _; rw [if_pos (by omega)])) dS_set_36 ?_
          refine lv_iload_n hx hb dS_set_37 rfl (lv_at hl 2 rfl) ?_
          refine lv_iload_n hx hb dS_set_38 rfl (lv_at hl 3 rfl) ?_
          refine lv_iload hx hb dS_set_39 (lv_at hl 4 rfl) ?_
          refine lv_iload hx hb dS_set_41 (lv_at hl 5 rfl) ?_
          refine bc_callv (bc_runS (own := RS) (As := [.ref (ad (5 + j)), .int (nI u), .int x, .int y, .int z]) (rest := []) hx hb (hml.trans hl.1.symm) hown hts (kS_put l D cs ad hI M s.heap.size (5 + j) u (by omega) (fun _ => sc_row5 (by omega)) (by omega) x y z) w_140 w_138 w_139 w_1 hd_S_put rfl ⟨rfl, rfl⟩ ⟨Nat.le_of_ble_eq_true rfl, Nat.le_of_ble_eq_true rfl⟩ (fun _ _ _ _ h => h.calling) (fun U hU hW => ⟨by rw [hU], by rw [hU]; exact hP, hE.warm hW⟩) rfl (Nat.le_of_ble_eq_true rfl) dS_set_43 ⟨Nat.le_of_ble_eq_true rfl, Nat.le_of_ble_eq_true rfl⟩) hS (fun M_1 H locs hr_43 hP hS => ?_)
          refine lv_aload_n hx hb dS_set_46 rfl (lv_at hl 0 rfl) ?_
          refine lv_iload_n hx hb dS_set_47 rfl (lv_at hl 1 rfl) ?_
          refine bc_callv (bc_runV (own := RS) (C := RS) (As := [.int (nI j)]) (rest := []) hx hb (hml.trans hl.1.symm) hown hts (kS_refreshLocal l D cs ad hI M_1 H.size j (by omega) (sTZ_keep hz (fun q h1 _ => by rw [hr_43, va_up_ne _ _ (by omega)]))) w_145 w_142 w_144 ws_sel_S_refreshLocal w_1 ⟨rfl, hd_S_refreshLocal⟩ rfl ⟨rfl, rfl⟩ ⟨Nat.le_of_ble_eq_true rfl, Nat.le_of_ble_eq_true rfl⟩ (fun _ _ _ _ h => h.calling) (bc_recv (r := (RS, TS, 14)) hE hP 0 (by decide) rfl rfl) (fun U hU hW => ⟨by rw [hU], by rw [hU]; exact hP, hE.warm hW⟩) rfl (Nat.le_of_ble_eq_true rfl) dS_set_48 ⟨Nat.le_of_ble_eq_true rfl, Nat.le_of_ble_eq_true rfl⟩) hS (fun M_2 H locs hr_48 hP hS => ?_)
          refine lv_aload_n hx hb dS_set_51 rfl (lv_at hl 0 rfl) ?_
          refine lv_aload_n hx hb dS_set_52 rfl (lv_at hl 0 rfl) ?_
          refine bw_get (own := RS) (ci := 1) (C := RS) (T := TS) (N := 14) (v := .int (M_2 0 7)) hx hb hts inS hown hE hP 0 (by decide) rfl rfl 7 (by decide) w_95 rfl rfl dS_set_53 ?_
          refine ln_asi (nI rr) (by rw [hr_48.1 0 (by decide) (by omega), hr_43, va_up_ne _ _ (by omega)]; exact hr7) ?_
          refine lv_iload_n hx hb dS_set_56 rfl (lv_at hl 1 rfl) ?_
          refine va_mmin (own := RS) (index := 84) hx hb (hml.trans hl.1.symm) hown (hts _ w_166) (hts _ w_167) (hts _ w_3) (hts _ w_168) (by decide) (Nat.le_of_ble_eq_true rfl) (by decide) (by decide) dS_set_57 ?_
          refine ln_asi (nI (min rr j)) (by exact nI_min (by omega) (by omega)) ?_
          refine bw_put (own := RS) (ci := 1) (C := RS) (T := TS) (N := 14) (v := .int (nI (min rr j))) (ty := .int) hx hb hts inS tyS tyS_ok nmS hown hE hI hP hS 0 (by decide) rfl rfl 7 (by decide) w_95 rfl rfl (upd (M_2 0) 7 (nI (min rr j))) rfl (by decide +kernel) rfl rfl (Nat.le_of_ble_eq_true rfl) dS_set_60 (fun M_3 H locs eM_3 hP hS => ?_)
          refine lv_iconst (v := nI 1) hx hb dS_set_63 (by decide) ?_
          exact W.zret (v := nI 1) (ty := .boolean) hx hb hr (by decide) (fun t ht hW => ⟨⟨_, M_3, rfl, Or.inl ⟨rfl, hp9, by rw [nI_clamp (by omega), nI_clamp (by omega)]; exact hC.set hj hrr hw hr_43 hr_48 eM_3⟩, by show va_P _ _ _ t.heap; rw [ht]; exact hP⟩, hS.F ht⟩) hS.2.2 dS_set_64
        · skip
          refine lv_iconst (v := nI 0) hx hb dS_set_29 (by decide) ?_
          exact W.zret (v := nI 0) (ty := .boolean) hx hb hr (by decide) (fun t ht hW => ⟨⟨_, M, rfl, Or.inr ⟨rfl, fun h9 => hr_23.f c_26 h9.2.2, hC⟩, by show va_P _ _ _ t.heap; rw [ht]; exact hP⟩, hS.F ht⟩) hS.2.2 dS_set_30

set_option maxHeartbeats 4000000 in
set_option maxRecDepth 100000 in
theorem kS_hang (l : Launch) (D : va_G) (cs : Nat → ClassId) (ad : Nat → Nat) (hI : bw_I ad 162) (M : Nat → Nat → Int32) (sz : Nat) (A : Ab) (hC : Cls A M) (n q : Int32)  : Met l yS_hang (wc yS_hang cS_hang 3 (some .boolean)) ({ frames := 1, cells := 0, slots := 0, locals := 21 } : Room) (va_Pc [.ref (ad 0), .int n, .int q] (sP D cs ad M sz)) (bQi D ad 162 (sc_cell cs ad) sz (fun r M1 => (r = nI 1 ∧ pHang A n q ∧ Cls (hangA A n.toNatClampNeg q) M1) ∨ (r = nI 0 ∧ ¬ pHang A n q ∧ Cls A M1))) 0 0 (bw_A ad 162 sz) := by
  refine Met.ofW (cc := cS_hang) (maxL := 3) (ret := (some .boolean)) (by decide +kernel) rfl ?_
  intro p e s m args below meth c s₁ B hml hv
  obtain ⟨rfl, hsz, hP, hE⟩ := hv
  subst hsz
  have hx := B.exec
  have hb := B.bytes
  have hr := B.returns
  have hts : ∀ w9 ∈ ws_all, w9.before ([.ref (ad 0), .int n, .int q] : List Value).toArray s = true := fun w9 h => atoms_spec (ws := (wc yS_hang cS_hang 3 (some .boolean))) B.pre w9 (List.mem_cons_of_mem _ h)
  have hown : s.vm.findClass RS = some m.cls := findClass_of_methodNamed B.named
  have hlocks := B.notSynchronized
  have hS : va_S (bw_A ad 162 s.heap.size) s.heap s.heap [] := va_S.rf
  have hl := lv_entry ([.ref (ad 0), .int n, .int q]) (n := 3) (Nat.le_of_ble_eq_true rfl)
  rw [lg_entry_eq]
  generalize (lg_sl ([.ref (ad 0), .int n, .int q]) ++ List.replicate (3 - (lg_sl ([.ref (ad 0), .int n, .int q])).length) Slot.unset).toArray = ls at hl ⊢
  have hl : lv_has ls 3 [(0, .ref (ad 0)), (1, .int n), (2, .int q)] := hl
  obtain ⟨hA, hn, hrow, heye, hview, hz, rr, hrr, hr7, hw⟩ := id hC
  have hN : aN A ≤ 48 := hA.1
  refine lv_aload_n hx hb dS_hang_0 rfl (lv_at hl 0 rfl) ?_
  refine lv_iload_n hx hb dS_hang_1 rfl (lv_at hl 1 rfl) ?_
  refine vp_callSi (va_Run.run (bc_runV (own := RS) (C := RS) (As := [.int n]) (rest := []) hx hb (hml.trans hl.1.symm) hown hts (kS_isNode l D cs ad hI M s.heap.size n) w_157 w_154 w_156 ws_sel_S_isNode w_1 ⟨rfl, hd_S_isNode⟩ rfl ⟨rfl, rfl⟩ ⟨Nat.le_of_ble_eq_true rfl, Nat.le_of_ble_eq_true rfl⟩ (fun _ _ _ _ h => h.calling) (bc_recv (r := (RS, TS, 14)) hE hP 0 (by decide) rfl rfl) (fun U hU hW => ⟨by rw [hU], by rw [hU]; exact hP, hE.warm hW⟩) rfl (Nat.le_of_ble_eq_true rfl) dS_hang_2 ⟨Nat.le_of_ble_eq_true rfl, Nat.le_of_ble_eq_true rfl⟩)) (fun r_2 hr_2 => ?_)
  rw [hn] at hr_2
  refine lv_if_eq (tgt := 16) hx hb dS_hang_5 (by decide) (fun c_5 => ?_) (fun c_5 => ?_)
  · skip
    refine lv_iconst (v := nI 0) hx hb dS_hang_16 (by decide) ?_
    exact W.zret (v := nI 0) (ty := .boolean) hx hb hr (by decide) (fun t ht hW => ⟨⟨_, M, rfl, Or.inr ⟨rfl, fun h9 => hr_2.f c_5 h9.1, hC⟩, by show va_P _ _ _ t.heap; rw [ht]; exact hP⟩, hS.F ht⟩) hS.2.2 dS_hang_17
  · skip
    refine lv_iload_n hx hb dS_hang_8 rfl (lv_at hl 1 rfl) ?_
    refine lv_iload_n hx hb dS_hang_9 rfl (lv_at hl 2 rfl) ?_
    refine vp_callSi (va_Run.run (bc_runS (own := RS) (As := [.int n, .int q]) (rest := []) hx hb (hml.trans hl.1.symm) hown hts (kS_isParentBefore l n q) w_137 w_135 w_136 w_1 hd_S_isParentBefore rfl ⟨rfl, rfl⟩ ⟨Nat.le_of_ble_eq_true rfl, Nat.le_of_ble_eq_true rfl⟩ (fun _ _ _ _ _ => trivial) (fun _ _ _ => trivial) rfl (Nat.le_of_ble_eq_true rfl) dS_hang_10 ⟨Nat.le_of_ble_eq_true rfl, Nat.le_of_ble_eq_true rfl⟩)) (fun r_10 hr_10 => ?_)
    refine lv_if_ne (tgt := 18) hx hb dS_hang_13 (by decide) (fun c_13 => ?_) (fun c_13 => ?_)
    · skip
      have hp9 : pHang A n q := ⟨hr_2.t c_5, hr_10.t c_13⟩
      obtain ⟨j, hj, rfl⟩ := rng_lt hp9.1.1 hp9.1.2 (by omega)
      refine lv_aload_n hx hb dS_hang_18 rfl (lv_at hl 0 rfl) ?_
      refine bw_get (own := RS) (ci := 1) (C := RS) (T := TS) (N := 14) (v := .ref (ad 1)) hx hb hts inS hown hE hP 0 (by decide) rfl rfl 1 (by decide) w_89 rfl rfl dS_hang_19 ?_
      refine lv_iload_n hx hb dS_hang_22 rfl (lv_at hl 1 rfl) ?_
      refine lv_iload_n hx hb dS_hang_23 rfl (lv_at hl 2 rfl) ?_
      refine ln_iast (L := 48) hx hb hE hI hP hS 1 0 (by decide) (rfl) rfl (by omega) (by decide) (upd (M 1) j q) (rfl) dS_hang_24 (fun M_1 H locs eM_1 hP hS => ?_)
      refine lv_aload_n hx hb dS_hang_25 rfl (lv_at hl 0 rfl) ?_
      refine lv_aload_n hx hb dS_hang_26 rfl (lv_at hl 0 rfl) ?_
      refine bw_get (own := RS) (ci := 1) (C := RS) (T := TS) (N := 14) (v := .int (M_1 0 7)) hx hb hts inS hown hE hP 0 (by decide) rfl rfl 7 (by decide) w_95 rfl rfl dS_hang_27 ?_
      refine ln_asi (nI rr) (by rw [eM_1, va_up_ne _ _ (by decide)]; exact hr7) ?_
      refine lv_iload_n hx hb dS_hang_30 rfl (lv_at hl 1 rfl) ?_
      refine va_mmin (own := RS) (index := 84) hx hb (hml.trans hl.1.symm) hown (hts _ w_166) (hts _ w_167) (hts _ w_3) (hts _ w_168) (by decide) (Nat.le_of_ble_eq_true rfl) (by decide) (by decide) dS_hang_31 ?_
      refine ln_asi (nI (min rr j)) (by exact nI_min (by omega) (by omega)) ?_
      refine bw_put (own := RS) (ci := 1) (C := RS) (T := TS) (N := 14) (v := .int (nI (min rr j))) (ty := .int) hx hb hts inS tyS tyS_ok nmS hown hE hI hP hS 0 (by decide) rfl rfl 7 (by decide) w_95 rfl rfl (upd (M_1 0) 7 (nI (min rr j))) rfl (by decide +kernel) rfl rfl (Nat.le_of_ble_eq_true rfl) dS_hang_34 (fun M_2 H locs eM_2 hP hS => ?_)
      refine lv_iconst (v := nI 1) hx hb dS_hang_37 (by decide) ?_
      exact W.zret (v := nI 1) (ty := .boolean) hx hb hr (by decide) (fun t ht hW => ⟨⟨_, M_2, rfl, Or.inl ⟨rfl, hp9, by rw [nI_clamp (by omega)]; exact hC.hang hj hp9.2 hrr hw eM_1 eM_2⟩, by show va_P _ _ _ t.heap; rw [ht]; exact hP⟩, hS.F ht⟩) hS.2.2 dS_hang_38
    · skip
      refine lv_iconst (v := nI 0) hx hb dS_hang_16 (by decide) ?_
      exact W.zret (v := nI 0) (ty := .boolean) hx hb hr (by decide) (fun t ht hW => ⟨⟨_, M, rfl, Or.inr ⟨rfl, fun h9 => hr_10.f c_13 h9.2, hC⟩, by show va_P _ _ _ t.heap; rw [ht]; exact hP⟩, hS.F ht⟩) hS.2.2 dS_hang_17

set_option maxHeartbeats 4000000 in
set_option maxRecDepth 100000 in
theorem kS_hide (l : Launch) (D : va_G) (cs : Nat → ClassId) (ad : Nat → Nat) (hI : bw_I ad 162) (M : Nat → Nat → Int32) (sz : Nat) (A : Ab) (hC : Cls A M) (n b : Int32)  : Met l yS_hide (wc yS_hide cS_hide 3 (some .boolean)) ({ frames := 1, cells := 0, slots := 0, locals := 21 } : Room) (va_Pc [.ref (ad 0), .int n, .int b] (sP D cs ad M sz)) (bQi D ad 162 (sc_cell cs ad) sz (fun r M1 => (r = nI 1 ∧ pNode A n ∧ Cls (hideA A n.toNatClampNeg b) M1) ∨ (r = nI 0 ∧ ¬ pNode A n ∧ Cls A M1))) 0 0 (bw_A ad 162 sz) := by
  refine Met.ofW (cc := cS_hide) (maxL := 3) (ret := (some .boolean)) (by decide +kernel) rfl ?_
  intro p e s m args below meth c s₁ B hml hv
  obtain ⟨rfl, hsz, hP, hE⟩ := hv
  subst hsz
  have hx := B.exec
  have hb := B.bytes
  have hr := B.returns
  have hts : ∀ w9 ∈ ws_all, w9.before ([.ref (ad 0), .int n, .int b] : List Value).toArray s = true := fun w9 h => atoms_spec (ws := (wc yS_hide cS_hide 3 (some .boolean))) B.pre w9 (List.mem_cons_of_mem _ h)
  have hown : s.vm.findClass RS = some m.cls := findClass_of_methodNamed B.named
  have hlocks := B.notSynchronized
  have hS : va_S (bw_A ad 162 s.heap.size) s.heap s.heap [] := va_S.rf
  have hl := lv_entry ([.ref (ad 0), .int n, .int b]) (n := 3) (Nat.le_of_ble_eq_true rfl)
  rw [lg_entry_eq]
  generalize (lg_sl ([.ref (ad 0), .int n, .int b]) ++ List.replicate (3 - (lg_sl ([.ref (ad 0), .int n, .int b])).length) Slot.unset).toArray = ls at hl ⊢
  have hl : lv_has ls 3 [(0, .ref (ad 0)), (1, .int n), (2, .int b)] := hl
  obtain ⟨hA, hn, hrow, heye, hview, hz, rr, hrr, hr7, hw⟩ := id hC
  have hN : aN A ≤ 48 := hA.1
  refine lv_aload_n hx hb dS_hide_0 rfl (lv_at hl 0 rfl) ?_
  refine lv_iload_n hx hb dS_hide_1 rfl (lv_at hl 1 rfl) ?_
  refine vp_callSi (va_Run.run (bc_runV (own := RS) (C := RS) (As := [.int n]) (rest := []) hx hb (hml.trans hl.1.symm) hown hts (kS_isNode l D cs ad hI M s.heap.size n) w_157 w_154 w_156 ws_sel_S_isNode w_1 ⟨rfl, hd_S_isNode⟩ rfl ⟨rfl, rfl⟩ ⟨Nat.le_of_ble_eq_true rfl, Nat.le_of_ble_eq_true rfl⟩ (fun _ _ _ _ h => h.calling) (bc_recv (r := (RS, TS, 14)) hE hP 0 (by decide) rfl rfl) (fun U hU hW => ⟨by rw [hU], by rw [hU]; exact hP, hE.warm hW⟩) rfl (Nat.le_of_ble_eq_true rfl) dS_hide_2 ⟨Nat.le_of_ble_eq_true rfl, Nat.le_of_ble_eq_true rfl⟩)) (fun r_2 hr_2 => ?_)
  rw [hn] at hr_2
  refine lv_if_ne (tgt := 10) hx hb dS_hide_5 (by decide) (fun c_5 => ?_) (fun c_5 => ?_)
  · skip
    have hp9 : pNode A n := hr_2.t c_5
    obtain ⟨j, hj, rfl⟩ := rng_lt hp9.1 hp9.2 (by omega)
    refine lv_aload_n hx hb dS_hide_10 rfl (lv_at hl 0 rfl) ?_
    refine bw_get (own := RS) (ci := 1) (C := RS) (T := TS) (N := 14) (v := .ref (ad 3)) hx hb hts inS hown hE hP 0 (by decide) rfl rfl 3 (by decide) w_91 rfl rfl dS_hide_11 ?_
    refine lv_iload_n hx hb dS_hide_14 rfl (lv_at hl 1 rfl) ?_
    refine lv_iload_n hx hb dS_hide_15 rfl (lv_at hl 2 rfl) ?_
    refine ln_zast (L := 48) hx hb hE hI hP hS 3 1 (by decide) (rfl) rfl (by omega) (by decide) (upd (M 3) j (vp_nar .boolean b)) (rfl) dS_hide_16 (fun M_1 H locs eM_1 hP hS => ?_)
    refine lv_iconst (v := nI 1) hx hb dS_hide_17 (by decide) ?_
    exact W.zret (v := nI 1) (ty := .boolean) hx hb hr (by decide) (fun t ht hW => ⟨⟨_, M_1, rfl, Or.inl ⟨rfl, hp9, by rw [nI_clamp (by omega)]; exact hC.hide hj eM_1⟩, by show va_P _ _ _ t.heap; rw [ht]; exact hP⟩, hS.F ht⟩) hS.2.2 dS_hide_18
  · skip
    refine lv_iconst (v := nI 0) hx hb dS_hide_8 (by decide) ?_
    exact W.zret (v := nI 0) (ty := .boolean) hx hb hr (by decide) (fun t ht hW => ⟨⟨_, M, rfl, Or.inr ⟨rfl, hr_2.f c_5, hC⟩, by show va_P _ _ _ t.heap; rw [ht]; exact hP⟩, hS.F ht⟩) hS.2.2 dS_hide_9

set_option maxHeartbeats 4000000 in
set_option maxRecDepth 100000 in
theorem kS_camera (l : Launch) (D : va_G) (cs : Nat → ClassId) (ad : Nat → Nat) (hI : bw_I ad 162) (M : Nat → Nat → Int32) (sz : Nat) (A : Ab) (hC : Cls A M) (q x y z : Int32)  : Met l yS_camera (wc yS_camera cS_camera 5 (some .boolean)) ({ frames := 6, cells := 0, slots := 0, locals := 135 } : Room) (va_Pc [.ref (ad 0), .int q, .int x, .int y, .int z] (sP D cs ad M sz)) (bQi D ad 162 (sc_cell cs ad) sz (fun r M1 => (r = nI 1 ∧ pCam q x y z ∧ Cls (camA A q.toNatClampNeg x y z) M1) ∨ (r = nI 0 ∧ ¬ pCam q x y z ∧ Cls A M1))) 0 0 (bw_A ad 162 sz) := by
  refine Met.ofW (cc := cS_camera) (maxL := 5) (ret := (some .boolean)) (by decide +kernel) rfl ?_
  intro p e s m args below meth c s₁ B hml hv
  obtain ⟨rfl, hsz, hP, hE⟩ := hv
  subst hsz
  have hx := B.exec
  have hb := B.bytes
  have hr := B.returns
  have hts : ∀ w9 ∈ ws_all, w9.before ([.ref (ad 0), .int q, .int x, .int y, .int z] : List Value).toArray s = true := fun w9 h => atoms_spec (ws := (wc yS_camera cS_camera 5 (some .boolean))) B.pre w9 (List.mem_cons_of_mem _ h)
  have hown : s.vm.findClass RS = some m.cls := findClass_of_methodNamed B.named
  have hlocks := B.notSynchronized
  have hS : va_S (bw_A ad 162 s.heap.size) s.heap s.heap [] := va_S.rf
  have hl := lv_entry ([.ref (ad 0), .int q, .int x, .int y, .int z]) (n := 5) (Nat.le_of_ble_eq_true rfl)
  rw [lg_entry_eq]
  generalize (lg_sl ([.ref (ad 0), .int q, .int x, .int y, .int z]) ++ List.replicate (5 - (lg_sl ([.ref (ad 0), .int q, .int x, .int y, .int z])).length) Slot.unset).toArray = ls at hl ⊢
  have hl : lv_has ls 5 [(0, .ref (ad 0)), (1, .int q), (2, .int x), (3, .int y), (4, .int z)] := hl
  obtain ⟨hA, hn, hrow, heye, hview, hz, rr, hrr, hr7, hw⟩ := id hC
  have hN : aN A ≤ 48 := hA.1
  refine lv_iload_n hx hb dS_camera_0 rfl (lv_at hl 1 rfl) ?_
  refine lv_if_lt (tgt := 20) hx hb dS_camera_1 (by decide) (fun c_1 => ?_) (fun c_1 => ?_)
  · skip
    refine lv_iconst (v := nI 0) hx hb dS_camera_20 (by decide) ?_
    exact W.zret (v := nI 0) (ty := .boolean) hx hb hr (by decide) (fun t ht hW => ⟨⟨_, M, rfl, Or.inr ⟨rfl, fun h9 => by have := h9.1.1; simp only [Int32.lt_iff_toInt_lt, Int32.le_iff_toInt_le, nI, Int32.reduceOfNat, Int32.reduceToInt] at c_1 this; omega, hC⟩, by show va_P _ _ _ t.heap; rw [ht]; exact hP⟩, hS.F ht⟩) hS.2.2 dS_camera_21
  · skip
    refine lv_iload_n hx hb dS_camera_4 rfl (lv_at hl 1 rfl) ?_
    refine lv_iconst (v := nI 1) hx hb dS_camera_5 (by decide) ?_
    refine lv_icmp_gt (tgt := 20) hx hb dS_camera_6 (by decide) (fun c_6 => ?_) (fun c_6 => ?_)
    · skip
      refine lv_iconst (v := nI 0) hx hb dS_camera_20 (by decide) ?_
      exact W.zret (v := nI 0) (ty := .boolean) hx hb hr (by decide) (fun t ht hW => ⟨⟨_, M, rfl, Or.inr ⟨rfl, fun h9 => by have := h9.1.2; simp only [Int32.lt_iff_toInt_lt, Int32.le_iff_toInt_le, nI, Int32.reduceOfNat, Int32.reduceToInt] at c_6 this; omega, hC⟩, by show va_P _ _ _ t.heap; rw [ht]; exact hP⟩, hS.F ht⟩) hS.2.2 dS_camera_21
    · skip
      refine lv_iload_n hx hb dS_camera_9 rfl (lv_at hl 1 rfl) ?_
      refine lv_iload_n hx hb dS_camera_10 rfl (lv_at hl 2 rfl) ?_
      refine lv_iload_n hx hb dS_camera_11 rfl (lv_at hl 3 rfl) ?_
      refine lv_iload hx hb dS_camera_12 (lv_at hl 4 rfl) ?_
      refine vp_callSi (va_Run.run (bc_runS (own := RS) (As := [.int q, .int x, .int y, .int z]) (rest := []) hx hb (hml.trans hl.1.symm) hown hts (kS_canBe l q x y z) w_160 w_158 w_159 w_1 hd_S_canBe rfl ⟨rfl, rfl⟩ ⟨Nat.le_of_ble_eq_true rfl, Nat.le_of_ble_eq_true rfl⟩ (fun _ _ _ _ _ => trivial) (fun _ _ _ => trivial) rfl (Nat.le_of_ble_eq_true rfl) dS_camera_14 ⟨Nat.le_of_ble_eq_true rfl, Nat.le_of_ble_eq_true rfl⟩)) (fun r_14 hr_14 => ?_)
      refine lv_if_ne (tgt := 22) hx hb dS_camera_17 (by decide) (fun c_17 => ?_) (fun c_17 => ?_)
      · skip
        have hp9 : pCam q x y z := ⟨by simp only [Int32.lt_iff_toInt_lt, Int32.le_iff_toInt_le, nI, Int32.reduceOfNat, Int32.reduceToInt] at c_1 c_6 ⊢; omega, hr_14.t c_17⟩
        obtain ⟨u, hu, rfl⟩ := rng_le hp9.1.1 hp9.1.2 (by decide)
        refine lv_aload_n hx hb dS_camera_22 rfl (lv_at hl 0 rfl) ?_
        refine bw_get (own := RS) (ci := 1) (C := RS) (T := TS) (N := 14) (v := .ref (ad 151)) hx hb hts inS hown hE hP 0 (by decide) rfl rfl 8 (by decide) w_96 rfl rfl dS_camera_23 ?_
        refine lv_iload_n hx hb dS_camera_26 rfl (lv_at hl 1 rfl) ?_
        refine lv_iload_n hx hb dS_camera_27 rfl (lv_at hl 2 rfl) ?_
        refine lv_iload_n hx hb dS_camera_28 rfl (lv_at hl 3 rfl) ?_
        refine lv_iload hx hb dS_camera_29 (lv_at hl 4 rfl) ?_
        refine bc_callv (bc_runS (own := RS) (As := [.ref (ad 151), .int (nI u), .int x, .int y, .int z]) (rest := []) hx hb (hml.trans hl.1.symm) hown hts (kS_put l D cs ad hI M s.heap.size 151 u (by decide) (fun _ => rfl) (by omega) x y z) w_140 w_138 w_139 w_1 hd_S_put rfl ⟨rfl, rfl⟩ ⟨Nat.le_of_ble_eq_true rfl, Nat.le_of_ble_eq_true rfl⟩ (fun _ _ _ _ h => h.calling) (fun U hU hW => ⟨by rw [hU], by rw [hU]; exact hP, hE.warm hW⟩) rfl (Nat.le_of_ble_eq_true rfl) dS_camera_31 ⟨Nat.le_of_ble_eq_true rfl, Nat.le_of_ble_eq_true rfl⟩) hS (fun M_1 H locs hr_31 hP hS => ?_)
        refine lv_aload_n hx hb dS_camera_34 rfl (lv_at hl 0 rfl) ?_
        refine bc_callv (bc_runV (own := RS) (C := RS) (As := []) (rest := []) hx hb (hml.trans hl.1.symm) hown hts (kS_refreshView l D cs ad hI M_1 H.size (sTZ_keep hz (fun q h1 _ => by rw [hr_31, va_up_ne _ _ (by omega)]))) w_47 w_44 w_46 ws_sel_S_refreshView w_1 ⟨rfl, hd_S_refreshView⟩ rfl ⟨rfl, rfl⟩ ⟨Nat.le_of_ble_eq_true rfl, Nat.le_of_ble_eq_true rfl⟩ (fun _ _ _ _ h => h.calling) (bc_recv (r := (RS, TS, 14)) hE hP 0 (by decide) rfl rfl) (fun U hU hW => ⟨by rw [hU], by rw [hU]; exact hP, hE.warm hW⟩) rfl (Nat.le_of_ble_eq_true rfl) dS_camera_35 ⟨Nat.le_of_ble_eq_true rfl, Nat.le_of_ble_eq_true rfl⟩) hS (fun M_2 H locs hr_35 hP hS => ?_)
        refine lv_iconst (v := nI 1) hx hb dS_camera_38 (by decide) ?_
        exact W.zret (v := nI 1) (ty := .boolean) hx hb hr (by decide) (fun t ht hW => ⟨⟨_, M_2, rfl, Or.inl ⟨rfl, hp9, by rw [nI_clamp (by omega)]; exact hC.cam hr_31 hr_35⟩, by show va_P _ _ _ t.heap; rw [ht]; exact hP⟩, hS.F ht⟩) hS.2.2 dS_camera_39
      · skip
        refine lv_iconst (v := nI 0) hx hb dS_camera_20 (by decide) ?_
        exact W.zret (v := nI 0) (ty := .boolean) hx hb hr (by decide) (fun t ht hW => ⟨⟨_, M, rfl, Or.inr ⟨rfl, fun h9 => hr_14.f c_17 h9.2, hC⟩, by show va_P _ _ _ t.heap; rw [ht]; exact hP⟩, hS.F ht⟩) hS.2.2 dS_camera_21

set_option maxHeartbeats 4000000 in
set_option maxRecDepth 100000 in
theorem kS_add (l : Launch) (D : va_G) (cs : Nat → ClassId) (ad : Nat → Nat) (hI : bw_I ad 162) (M : Nat → Nat → Int32) (sz : Nat) (A : Ab) (hC : Cls A M) (q k : Int32)  : Met l yS_add (wc yS_add cS_add 4 (some .int)) ({ frames := 6, cells := 0, slots := 0, locals := 136 } : Room) (va_Pc [.ref (ad 0), .int q, .int k] (sP D cs ad M sz)) (bQi D ad 162 (sc_cell cs ad) sz (fun r M1 => (r = nI (aN A) ∧ pAdd A q k ∧ Cls (addA A q k) M1) ∨ (r = (-1) ∧ ¬ pAdd A q k ∧ Cls A M1))) 0 0 (bw_A ad 162 sz) := by
  refine Met.ofW (cc := cS_add) (maxL := 4) (ret := (some .int)) (by decide +kernel) rfl ?_
  intro p e s m args below meth c s₁ B hml hv
  obtain ⟨rfl, hsz, hP, hE⟩ := hv
  subst hsz
  have hx := B.exec
  have hb := B.bytes
  have hr := B.returns
  have hts : ∀ w9 ∈ ws_all, w9.before ([.ref (ad 0), .int q, .int k] : List Value).toArray s = true := fun w9 h => atoms_spec (ws := (wc yS_add cS_add 4 (some .int))) B.pre w9 (List.mem_cons_of_mem _ h)
  have hown : s.vm.findClass RS = some m.cls := findClass_of_methodNamed B.named
  have hlocks := B.notSynchronized
  have hS : va_S (bw_A ad 162 s.heap.size) s.heap s.heap [] := va_S.rf
  have hl := lv_entry ([.ref (ad 0), .int q, .int k]) (n := 4) (Nat.le_of_ble_eq_true rfl)
  rw [lg_entry_eq]
  generalize (lg_sl ([.ref (ad 0), .int q, .int k]) ++ List.replicate (4 - (lg_sl ([.ref (ad 0), .int q, .int k])).length) Slot.unset).toArray = ls at hl ⊢
  have hl : lv_has ls 4 [(0, .ref (ad 0)), (1, .int q), (2, .int k)] := hl
  obtain ⟨hA, hn, hrow, heye, hview, hz, rr, hrr, hr7, hw⟩ := id hC
  have hN : aN A ≤ 48 := hA.1
  refine lv_aload_n hx hb dS_add_0 rfl (lv_at hl 0 rfl) ?_
  refine bw_get (own := RS) (ci := 1) (C := RS) (T := TS) (N := 14) (v := .int (M 0 0)) hx hb hts inS hown hE hP 0 (by decide) rfl rfl 0 (by decide) w_88 rfl rfl dS_add_1 ?_
  refine ln_asi (nI (aN A)) (by exact hn) ?_
  refine lv_bipush (v := nI 48) hx hb dS_add_4 (by decide) ?_
  refine ln_icmp_ge (tgt := 29) hx hb dS_add_6 (by decide) (by omega) (by omega) (fun c_6 => ?_) (fun c_6 => ?_)
  · skip
    refine lv_iconst (v := (-1)) hx hb dS_add_29 (by decide) ?_
    exact W.iret (v := (-1)) hx hb hr (fun t ht hW => ⟨⟨_, M, rfl, Or.inr ⟨rfl, fun h9 => by have := h9.1; omega, hC⟩, by show va_P _ _ _ t.heap; rw [ht]; exact hP⟩, hS.F ht⟩) hS.2.2 dS_add_30
  · skip
    refine lv_aload_n hx hb dS_add_9 rfl (lv_at hl 0 rfl) ?_
    refine bw_get (own := RS) (ci := 1) (C := RS) (T := TS) (N := 14) (v := .int (M 0 0)) hx hb hts inS hown hE hP 0 (by decide) rfl rfl 0 (by decide) w_88 rfl rfl dS_add_10 ?_
    refine ln_asi (nI (aN A)) (by exact hn) ?_
    refine lv_iload_n hx hb dS_add_13 rfl (lv_at hl 1 rfl) ?_
    refine vp_callSi (va_Run.run (bc_runS (own := RS) (As := [.int (nI (aN A)), .int q]) (rest := []) hx hb (hml.trans hl.1.symm) hown hts (kS_isParentBefore l (nI (aN A)) q) w_137 w_135 w_136 w_1 hd_S_isParentBefore rfl ⟨rfl, rfl⟩ ⟨Nat.le_of_ble_eq_true rfl, Nat.le_of_ble_eq_true rfl⟩ (fun _ _ _ _ _ => trivial) (fun _ _ _ => trivial) rfl (Nat.le_of_ble_eq_true rfl) dS_add_14 ⟨Nat.le_of_ble_eq_true rfl, Nat.le_of_ble_eq_true rfl⟩)) (fun r_14 hr_14 => ?_)
    refine lv_if_eq (tgt := 29) hx hb dS_add_17 (by decide) (fun c_17 => ?_) (fun c_17 => ?_)
    · skip
      refine lv_iconst (v := (-1)) hx hb dS_add_29 (by decide) ?_
      exact W.iret (v := (-1)) hx hb hr (fun t ht hW => ⟨⟨_, M, rfl, Or.inr ⟨rfl, fun h9 => hr_14.f c_17 h9.2.1, hC⟩, by show va_P _ _ _ t.heap; rw [ht]; exact hP⟩, hS.F ht⟩) hS.2.2 dS_add_30
    · skip
      refine lv_iload_n hx hb dS_add_20 rfl (lv_at hl 2 rfl) ?_
      refine lv_if_lt (tgt := 29) hx hb dS_add_21 (by decide) (fun c_21 => ?_) (fun c_21 => ?_)
      · skip
        refine lv_iconst (v := (-1)) hx hb dS_add_29 (by decide) ?_
        exact W.iret (v := (-1)) hx hb hr (fun t ht hW => ⟨⟨_, M, rfl, Or.inr ⟨rfl, fun h9 => by have := h9.2.2.1; simp only [Int32.lt_iff_toInt_lt, Int32.le_iff_toInt_le, nI, Int32.reduceOfNat, Int32.reduceToInt] at c_21 this; omega, hC⟩, by show va_P _ _ _ t.heap; rw [ht]; exact hP⟩, hS.F ht⟩) hS.2.2 dS_add_30
      · skip
        refine lv_iload_n hx hb dS_add_24 rfl (lv_at hl 2 rfl) ?_
        refine lv_iconst (v := nI 2) hx hb dS_add_25 (by decide) ?_
        refine lv_icmp_le (tgt := 31) hx hb dS_add_26 (by decide) (fun c_26 => ?_) (fun c_26 => ?_)
        · skip
          have hk9 : 0 ≤ k ∧ k ≤ nI 2 := by simp only [Int32.lt_iff_toInt_lt, Int32.le_iff_toInt_le, nI, Int32.reduceOfNat, Int32.reduceToInt] at c_21 c_26 ⊢; omega
          refine lv_aload_n hx hb dS_add_31 rfl (lv_at hl 0 rfl) ?_
          refine bw_get (own := RS) (ci := 1) (C := RS) (T := TS) (N := 14) (v := .int (M 0 0)) hx hb hts inS hown hE hP 0 (by decide) rfl rfl 0 (by decide) w_88 rfl rfl dS_add_32 ?_
          refine ln_asi (nI (aN A)) (by exact hn) ?_
          refine lv_istore_n (lv' := [(3, .int (nI (aN A))), (0, .ref (ad 0)), (1, .int q), (2, .int k)]) hx hb dS_add_35 rfl hl (by decide) rfl (fun ls hl => ?_)
          refine lv_aload_n hx hb dS_add_36 rfl (lv_at hl 1 rfl) ?_
          refine lv_dup hx hb dS_add_37 rfl ?_
          refine bw_get (own := RS) (ci := 1) (C := RS) (T := TS) (N := 14) (v := .int (M 0 0)) hx hb hts inS hown hE hP 0 (by decide) rfl rfl 0 (by decide) w_88 rfl rfl dS_add_38 ?_
          refine ln_asi (nI (aN A)) (by exact hn) ?_
          refine lv_iconst (v := nI 1) hx hb dS_add_41 (by decide) ?_
          refine ln_iadd hx hb dS_add_42 ?_
          refine bw_put (own := RS) (ci := 1) (C := RS) (T := TS) (N := 14) (v := .int (nI ((aN A) + 1))) (ty := .int) hx hb hts inS tyS tyS_ok nmS hown hE hI hP hS 0 (by decide) rfl rfl 0 (by decide) w_88 rfl rfl (upd (M 0) 0 (nI ((aN A) + 1))) rfl (by decide +kernel) rfl rfl (Nat.le_of_ble_eq_true rfl) dS_add_43 (fun M_1 H locs eM_1 hP hS => ?_)
          refine lv_aload_n hx hb dS_add_46 rfl (lv_at hl 1 rfl) ?_
          refine bw_get (own := RS) (ci := 1) (C := RS) (T := TS) (N := 14) (v := .ref (ad 1)) hx hb hts inS hown hE hP 0 (by decide) rfl rfl 1 (by decide) w_89 rfl rfl dS_add_47 ?_
          refine lv_iload_n hx hb dS_add_50 rfl (lv_at hl 0 rfl) ?_
          refine lv_iload_n hx hb dS_add_51 rfl (lv_at hl 2 rfl) ?_
          refine ln_iast (L := 48) hx hb hE hI hP hS 1 0 (by decide) (rfl) rfl (by omega) (by decide) (upd (M_1 1) (aN A) q) (rfl) dS_add_52 (fun M_2 H locs eM_2 hP hS => ?_)
          refine lv_aload_n hx hb dS_add_53 rfl (lv_at hl 1 rfl) ?_
          refine bw_get (own := RS) (ci := 1) (C := RS) (T := TS) (N := 14) (v := .ref (ad 2)) hx hb hts inS hown hE hP 0 (by decide) rfl rfl 2 (by decide) w_90 rfl rfl dS_add_54 ?_
          refine lv_iload_n hx hb dS_add_57 rfl (lv_at hl 0 rfl) ?_
          refine lv_iload_n hx hb dS_add_58 rfl (lv_at hl 3 rfl) ?_
          refine ln_iast (L := 48) hx hb hE hI hP hS 2 0 (by decide) (rfl) rfl (by omega) (by decide) (upd (M_2 2) (aN A) k) (rfl) dS_add_59 (fun M_3 H locs eM_3 hP hS => ?_)
          refine lv_aload_n hx hb dS_add_60 rfl (lv_at hl 1 rfl) ?_
          refine bw_get (own := RS) (ci := 1) (C := RS) (T := TS) (N := 14) (v := .ref (ad 3)) hx hb hts inS hown hE hP 0 (by decide) rfl rfl 3 (by decide) w_91 rfl rfl dS_add_61 ?_
          refine lv_iload_n hx hb dS_add_64 rfl (lv_at hl 0 rfl) ?_
          refine lv_iconst (v := nI 0) hx hb dS_add_65 (by decide) ?_
          refine ln_zast (L := 48) hx hb hE hI hP hS 3 1 (by decide) (rfl) rfl (by omega) (by decide) (upd (M_3 3) (aN A) (vp_nar .boolean (nI 0))) (rfl) dS_add_66 (fun M_4 H locs eM_4 hP hS => ?_)
          refine lv_aload_n hx hb dS_add_67 rfl (lv_at hl 1 rfl) ?_
          refine bw_get (own := RS) (ci := 1) (C := RS) (T := TS) (N := 14) (v := .ref (ad 4)) hx hb hts inS hown hE hP 0 (by decide) rfl rfl 4 (by decide) w_92 rfl rfl dS_add_68 ?_
          refine lv_iload_n hx hb dS_add_71 rfl (lv_at hl 0 rfl) ?_
          refine ln_aald (L := 48) hx hb hE hP 4 2 (by decide) (rfl) rfl (by omega) (by decide) (a := ad (5 + (aN A))) (by first | rfl | (show (if _ then _ else _) = _; rw [if_pos (by omega)])) dS_add_72 ?_
          refine lv_iconst (v := nI 0) hx hb dS_add_73 (by decide) ?_
          refine lv_iconst (v := nI 0) hx hb dS_add_74 (by decide) ?_
          refine lv_iconst (v := nI 0) hx hb dS_add_75 (by decide) ?_
          refine lv_iconst (v := nI 0) hx hb dS_add_76 (by decide) ?_
          refine bc_callv (bc_runS (own := RS) (As := [.ref (ad (5 + (aN A))), .int (nI 0), .int (nI 0), .int (nI 0), .int (nI 0)]) (rest := []) hx hb (hml.trans hl.1.symm) hown hts (kS_put l D cs ad hI M_4 H.size (5 + aN A) 0 (by omega) (fun _ => sc_row5 (by omega)) (by decide) (nI 0) (nI 0) (nI 0)) w_140 w_138 w_139 w_1 hd_S_put rfl ⟨rfl, rfl⟩ ⟨Nat.le_of_ble_eq_true rfl, Nat.le_of_ble_eq_true rfl⟩ (fun _ _ _ _ h => h.calling) (fun U hU hW => ⟨by rw [hU], by rw [hU]; exact hP, hE.warm hW⟩) rfl (Nat.le_of_ble_eq_true rfl) dS_add_77 ⟨Nat.le_of_ble_eq_true rfl, Nat.le_of_ble_eq_true rfl⟩) hS (fun M_5 H locs hr_77 hP hS => ?_)
          refine lv_aload_n hx hb dS_add_80 rfl (lv_at hl 1 rfl) ?_
          refine bw_get (own := RS) (ci := 1) (C := RS) (T := TS) (N := 14) (v := .ref (ad 4)) hx hb hts inS hown hE hP 0 (by decide) rfl rfl 4 (by decide) w_92 rfl rfl dS_add_81 ?_
          refine lv_iload_n hx hb dS_add_84 rfl (lv_at hl 0 rfl) ?_
          refine ln_aald (L := 48) hx hb hE hP 4 2 (by decide) (rfl) rfl (by omega) (by decide) (a := ad (5 + (aN A))) (by first | rfl | (show (if _ then _ else _) = _; rw [if_pos (by omega)])) dS_add_85 ?_
          refine lv_iconst (v := nI 1) hx hb dS_add_86 (by decide) ?_
          refine lv_iconst (v := nI 0) hx hb dS_add_87 (by decide) ?_
          refine lv_iconst (v := nI 0) hx hb dS_add_88 (by decide) ?_
          refine lv_iconst (v := nI 0) hx hb dS_add_89 (by decide) ?_
          refine bc_callv (bc_runS (own := RS) (As := [.ref (ad (5 + (aN A))), .int (nI 1), .int (nI 0), .int (nI 0), .int (nI 0)]) (rest := []) hx hb (hml.trans hl.1.symm) hown hts (kS_put l D cs ad hI M_5 H.size (5 + aN A) 1 (by omega) (fun _ => sc_row5 (by omega)) (by decide) (nI 0) (nI 0) (nI 0)) w_140 w_138 w_139 w_1 hd_S_put rfl ⟨rfl, rfl⟩ ⟨Nat.le_of_ble_eq_true rfl, Nat.le_of_ble_eq_true rfl⟩ (fun _ _ _ _ h => h.calling) (fun U hU hW => ⟨by rw [hU], by rw [hU]; exact hP, hE.warm hW⟩) rfl (Nat.le_of_ble_eq_true rfl) dS_add_90 ⟨Nat.le_of_ble_eq_true rfl, Nat.le_of_ble_eq_true rfl⟩) hS (fun M_6 H locs hr_90 hP hS => ?_)
          refine lv_aload_n hx hb dS_add_93 rfl (lv_at hl 1 rfl) ?_
          refine bw_get (own := RS) (ci := 1) (C := RS) (T := TS) (N := 14) (v := .ref (ad 4)) hx hb hts inS hown hE hP 0 (by decide) rfl rfl 4 (by decide) w_92 rfl rfl dS_add_94 ?_
          refine lv_iload_n hx hb dS_add_97 rfl (lv_at hl 0 rfl) ?_
          refine ln_aald (L := 48) hx hb hE hP 4 2 (by decide) (rfl) rfl (by omega) (by decide) (a := ad (5 + (aN A))) (by first | rfl | (show (if _ then _ else _) = _; rw [if_pos (by omega)])) dS_add_98 ?_
          refine lv_iconst (v := nI 2) hx hb dS_add_99 (by decide) ?_
          refine lv_ldc (own := RS) (index := 71) (v := 65536) hx hb hown (hts _ w_141) dS_add_100 ?_
          refine lv_ldc (own := RS) (index := 71) (v := 65536) hx hb hown (hts _ w_141) dS_add_102 ?_
          refine lv_ldc (own := RS) (index := 71) (v := 65536) hx hb hown (hts _ w_141) dS_add_104 ?_
          refine bc_callv (bc_runS (own := RS) (As := [.ref (ad (5 + (aN A))), .int (nI 2), .int 65536, .int 65536, .int 65536]) (rest := []) hx hb (hml.trans hl.1.symm) hown hts (kS_put l D cs ad hI M_6 H.size (5 + aN A) 2 (by omega) (fun _ => sc_row5 (by omega)) (by decide) 65536 65536 65536) w_140 w_138 w_139 w_1 hd_S_put rfl ⟨rfl, rfl⟩ ⟨Nat.le_of_ble_eq_true rfl, Nat.le_of_ble_eq_true rfl⟩ (fun _ _ _ _ h => h.calling) (fun U hU hW => ⟨by rw [hU], by rw [hU]; exact hP, hE.warm hW⟩) rfl (Nat.le_of_ble_eq_true rfl) dS_add_106 ⟨Nat.le_of_ble_eq_true rfl, Nat.le_of_ble_eq_true rfl⟩) hS (fun M_7 H locs hr_106 hP hS => ?_)
          refine lv_aload_n hx hb dS_add_109 rfl (lv_at hl 1 rfl) ?_
          refine lv_iload_n hx hb dS_add_110 rfl (lv_at hl 0 rfl) ?_
          refine bc_callv (bc_runV (own := RS) (C := RS) (As := [.int (nI (aN A))]) (rest := []) hx hb (hml.trans hl.1.symm) hown hts (kS_refreshLocal l D cs ad hI M_7 H.size (aN A) (by omega) (sTZ_keep hz (fun q h1 _ => by rw [hr_106, va_up_ne _ _ (by omega), hr_90, va_up_ne _ _ (by omega), hr_77, va_up_ne _ _ (by omega), eM_4, va_up_ne _ _ (by omega), eM_3, va_up_ne _ _ (by omega), eM_2, va_up_ne _ _ (by omega), eM_1, va_up_ne _ _ (by omega)]))) w_145 w_142 w_144 ws_sel_S_refreshLocal w_1 ⟨rfl, hd_S_refreshLocal⟩ rfl ⟨rfl, rfl⟩ ⟨Nat.le_of_ble_eq_true rfl, Nat.le_of_ble_eq_true rfl⟩ (fun _ _ _ _ h => h.calling) (bc_recv (r := (RS, TS, 14)) hE hP 0 (by decide) rfl rfl) (fun U hU hW => ⟨by rw [hU], by rw [hU]; exact hP, hE.warm hW⟩) rfl (Nat.le_of_ble_eq_true rfl) dS_add_111 ⟨Nat.le_of_ble_eq_true rfl, Nat.le_of_ble_eq_true rfl⟩) hS (fun M_8 H locs hr_111 hP hS => ?_)
          refine lv_iload_n hx hb dS_add_114 rfl (lv_at hl 0 rfl) ?_
          exact W.iret (v := nI (aN A)) hx hb hr (fun t ht hW => ⟨⟨_, M_8, rfl, Or.inl ⟨rfl, ⟨c_6, hr_14.t c_17, hk9⟩, hC.add c_6 (hr_14.t c_17) hk9 eM_1 eM_2 eM_3 eM_4 hr_77 hr_90 hr_106 hr_111⟩, by show va_P _ _ _ t.heap; rw [ht]; exact hP⟩, hS.F ht⟩) hS.2.2 dS_add_115
        · skip
          refine lv_iconst (v := (-1)) hx hb dS_add_29 (by decide) ?_
          exact W.iret (v := (-1)) hx hb hr (fun t ht hW => ⟨⟨_, M, rfl, Or.inr ⟨rfl, fun h9 => by have := h9.2.2.2; simp only [Int32.lt_iff_toInt_lt, Int32.le_iff_toInt_le, nI, Int32.reduceOfNat, Int32.reduceToInt] at c_26 this; omega, hC⟩, by show va_P _ _ _ t.heap; rw [ht]; exact hP⟩, hS.F ht⟩) hS.2.2 dS_add_30
end
section
/-! seen, inOrder (the class) -/
def sawB (A : Ab) (n : Nat) : Bool := !(aK A n == 0) && jopn (aP A) (aH A) n
def cntB (S : Nat → Bool) : Nat → Nat
  | 0 => 0
  | n + 1 => cntB S n + (if S n = true then 1 else 0)
theorem cntB_le (S : Nat → Bool) : ∀ n, cntB S n ≤ n
  | 0 => Nat.le_refl _
  | n + 1 => by
    have := cntB_le S n
    rw [cntB]
    split <;> omega
def adep (A : Ab) (n : Nat) : Int32 := jprod (jview (aE A)) (jworld (aP A) (fun n => jlocal (aU A n)) n) 2 3
def oAns (A : Ab) (k r : Int32) : Prop := (0 ≤ k ∧ k < nI (aN A) → ∃ z o, srt (ky1 (aK A)) (ky2 (aK A) (adep A)) (fun n => sawB A n = true) (aN A) z o ∧ ∃ v, v < aN A ∧ k = nI v ∧ ((v < z ∧ r = nI (o v)) ∨ (z ≤ v ∧ r = (-1)))) ∧ (¬ (0 ≤ k ∧ k < nI (aN A)) → r = (-1))
theorem jopn_congr {par par' hid hid' : Nat → Int32} {N : Nat} (hp : pOk par N) (hN : N < 2147483648) (h1 : ∀ n, n < N → par' n = par n) (h2 : ∀ n, n < N → hid' n = hid n) : ∀ n, n < N → jopn par' hid' n = jopn par hid n := by
  have hp' : pOk par' N := fun n hn => by rw [h1 n hn]; exact hp n hn
  intro n
  induction n using Nat.strongRecOn with
  | _ n ih =>
    intro hn
    rcases hp n hn with h | ⟨q, hq, h⟩
    · rw [jopn_root h, jopn_root (by rw [h1 n hn]; exact h), h2 n hn]
    · rw [jopn_at hp hN hn hq h, jopn_at hp' hN hn hq (by rw [h1 n hn]; exact h), h2 n hn, ih q hq (by omega)]
theorem srt_congr {k1 k2 k1' k2' : Nat → Int} {S S' : Nat → Prop} {d z : Nat} {o : Nat → Nat} (h : srt k1 k2 S d z o) (h1 : ∀ n, n < d → k1' n = k1 n) (h2 : ∀ n, n < d → k2' n = k2 n) (h3 : ∀ n, n < d → (S' n ↔ S n)) : srt k1' k2' S' d z o := by
  refine ⟨fun i hi => ⟨(h.1 i hi).1, (h3 _ (h.1 i hi).1).mpr (h.1 i hi).2⟩, fun i j hij hj => ?_, fun n hn hs => h.2.2 n hn ((h3 n hn).mp hs)⟩
  have a := (h.1 i (by omega)).1
  have b := (h.1 j hj).1
  have c := h.2.1 i j hij hj
  unfold ltK at c ⊢
  rw [h1 _ a, h1 _ b, h2 _ a, h2 _ b]
  exact c
theorem Cls.cache {A : Ab} {M M1 : Nat → Nat → Int32} (h : Cls A M) (f : ∀ q, 0 < q → q ≠ 153 → q ≠ 154 → q ≠ 155 → (q < 103 ∨ 151 ≤ q) → M1 q = M q) (f0 : ∀ t, t ≠ 7 → M1 0 t = M 0 t) (hw : ∃ r, r ≤ aN A ∧ M1 0 7 = nI r ∧ wOk M1 r) : Cls A M1 := by
  obtain ⟨a1, a2, a3, a4, a5, a6, -⟩ := h
  have hN := a1.1
  refine ⟨a1, by rw [f0 0 (by decide)]; exact a2, fun n hn => ?_, fun i hi => by rw [f 151 (by decide) (by decide) (by decide) (by decide) (by decide)]; exact a4 i hi, fun t ht => by rw [f 152 (by decide) (by decide) (by decide) (by decide) (by decide)]; exact a5 t ht, sTZ_keep a6 (fun q h1 _ => f q (by omega) (by omega) (by omega) (by omega) (by omega)), hw⟩
  obtain ⟨b1, b2, b3, b4, b5⟩ := a3 n hn
  exact ⟨by rw [f 1 (by decide) (by decide) (by decide) (by decide) (by decide)]; exact b1, by rw [f 2 (by decide) (by decide) (by decide) (by decide) (by decide)]; exact b2, by rw [f 3 (by decide) (by decide) (by decide) (by decide) (by decide)]; exact b3, fun i hi => by rw [f (5 + n) (by omega) (by omega) (by omega) (by omega) (by omega)]; exact b4 i hi, fun t ht => by rw [f (54 + n) (by omega) (by omega) (by omega) (by omega) (by omega)]; exact b5 t ht⟩
theorem Cls.saw {A : Ab} {M : Nat → Nat → Int32} (h : Cls A M) {n : Nat} (hn : n < aN A) : (¬ M 2 n = 0 ∧ jopn (M 1) (M 3) n = true) ↔ sawB A n = true := by
  have hN := h.1.1
  rw [jopn_congr (h.1.2.1) (by omega) (fun k hk => (h.2.2.1 k hk).1) (fun k hk => (h.2.2.1 k hk).2.2.1) n hn, (h.2.2.1 n hn).2.1]
  unfold sawB
  simp
theorem Cls.marked {A : Ab} {M M1 : Nat → Nat → Int32} (h : Cls A M) (hm : oInv M M1 (aN A)) : Cls A M1 := by
  have hpk := h.pok
  obtain ⟨-, -, -, -, -, -, r, hr, h7, hw⟩ := id h
  have hN := h.1.1
  exact h.cache (fun q _ h1 _ _ _ => hm.1 q h1) (fun t _ => by rw [hm.1 0 (by decide)]) ⟨r, hr, by rw [hm.1 0 (by decide)]; exact h7, wOk_keep hw (Nat.le_refl _) (by omega) (pOk_le hpk hr) (fun n _ => by rw [hm.1 1 (by decide)]) (fun n hn t _ => by rw [hm.1 (54 + n) (by omega)]) (fun n hn t _ => by rw [hm.1 (103 + n) (by omega)])⟩
theorem Cls.sawM {A : Ab} {M M1 : Nat → Nat → Int32} (h : Cls A M) (hm : oInv M M1 (aN A)) {n : Nat} (hn : n < aN A) : (¬ M1 2 n = 0 ∧ ¬ M1 153 n = 0) ↔ sawB A n = true := by
  rw [← h.saw hn, hm.1 2 (by decide), hm.2 n hn]
  cases jopn (M 1) (M 3) n with
  | true => simp
  | false => simp
theorem Cls.dep {A : Ab} {M : Nat → Nat → Int32} (h : Cls A M) {n : Nat} (hn : n < aN A) : jprod (M 152) (jworld (M 1) (fun n => M (54 + n)) n) 2 3 = adep A n := by
  have hN := h.1.1
  unfold adep
  exact jprod_congr h.2.2.2.2.1 (jworld_congr (h.1.2.1) (by omega) (fun k hk => (h.2.2.1 k hk).1) (fun k hk => (h.2.2.1 k hk).2.2.2.2) n hn) (by decide) (by decide)
theorem Cls.put {A : Ab} {M M0 M1 : Nat → Nat → Int32} {r0 z : Nat} {o : Nat → Nat} (h : Cls A M) (hr0 : r0 ≤ aN A) (hR : oInvR M M0 (aN A) r0) (hp : pInv M0 M1 (fun n => ¬ M 2 n = 0 ∧ jopn (M 1) (M 3) n = true) (fun n => jprod (M 152) (jworld (M 1) (fun n => M (54 + n)) n) 2 3) (aN A) z o) : Cls A M1 ∧ srt (ky1 (aK A)) (ky2 (aK A) (adep A)) (fun n => sawB A n = true) (aN A) z o := by
  have hN := h.1.1
  have hpk := h.pok
  obtain ⟨a1, a2, a3, a4, a5⟩ := hR
  obtain ⟨b1, b2, b3, b4, b5⟩ := hp
  have e2 : ∀ n, n < aN A → M0 2 n = aK A n := fun n hn => by rw [a1 2 (by decide) (by decide) (by decide)]; exact (h.2.2.1 n hn).2.1
  have hm : max r0 (aN A) = aN A := by omega
  rw [hm] at a3 a4
  refine ⟨h.cache (fun q h0 h1 h2 h3 h4 => by rw [b1 q h2 h3]; exact a1 q h0 h1 h4) (fun t ht => by rw [b1 0 (by decide) (by decide)]; exact a2 t ht) ⟨aN A, Nat.le_refl _, by rw [b1 0 (by decide) (by decide)]; exact a3, ?_⟩, srt_congr b5 (fun n hn => by unfold ky1; rw [e2 n hn]) (fun n hn => by unfold ky2; rw [e2 n hn, ← h.dep hn]) (fun n hn => (h.saw hn).symm)⟩
  refine wOk_keep a4 (Nat.le_refl _) (by omega) ?_ (fun n _ => by rw [b1 1 (by decide) (by decide)]) (fun n hn t _ => by rw [b1 (54 + n) (by omega) (by omega)]) (fun n hn t _ => by rw [b1 (103 + n) (by omega) (by omega)])
  rw [a1 1 (by decide) (by decide) (by decide)]
  exact hpk

set_option maxHeartbeats 4000000 in
set_option maxRecDepth 100000 in
theorem kS_seen (l : Launch) (D : va_G) (cs : Nat → ClassId) (ad : Nat → Nat) (hI : bw_I ad 162) (M : Nat → Nat → Int32) (sz : Nat) (A : Ab) (hC : Cls A M)  : Met l yS_seen (wc yS_seen cS_seen 3 (some .int)) ({ frames := 1, cells := 0, slots := 0, locals := 22 } : Room) (va_Pc [.ref (ad 0)] (sP D cs ad M sz)) (bQi D ad 162 (sc_cell cs ad) sz (fun r M1 => r = nI (cntB (sawB A) (aN A)) ∧ Cls A M1)) 0 0 (bw_A ad 162 sz) := by
  refine Met.ofW (cc := cS_seen) (maxL := 3) (ret := (some .int)) (by decide +kernel) rfl ?_
  intro p e s m args below meth c s₁ B hml hv
  obtain ⟨rfl, hsz, hP, hE⟩ := hv
  subst hsz
  have hx := B.exec
  have hb := B.bytes
  have hr := B.returns
  have hts : ∀ w9 ∈ ws_all, w9.before ([.ref (ad 0)] : List Value).toArray s = true := fun w9 h => atoms_spec (ws := (wc yS_seen cS_seen 3 (some .int))) B.pre w9 (List.mem_cons_of_mem _ h)
  have hown : s.vm.findClass RS = some m.cls := findClass_of_methodNamed B.named
  have hlocks := B.notSynchronized
  have hS : va_S (bw_A ad 162 s.heap.size) s.heap s.heap [] := va_S.rf
  have hl := lv_entry ([.ref (ad 0)]) (n := 3) (Nat.le_of_ble_eq_true rfl)
  rw [lg_entry_eq]
  generalize (lg_sl ([.ref (ad 0)]) ++ List.replicate (3 - (lg_sl ([.ref (ad 0)])).length) Slot.unset).toArray = ls at hl ⊢
  have hl : lv_has ls 3 [(0, .ref (ad 0))] := hl
  obtain ⟨hA, hn, hrow, heye, hview, hz, rr, hrr, hr7, hw⟩ := id hC
  have hN : aN A ≤ 48 := hA.1
  refine lv_aload_n hx hb dS_seen_0 rfl (lv_at hl 0 rfl) ?_
  refine bc_callv (bc_runV (own := RS) (C := RS) (As := []) (rest := []) hx hb (hml.trans hl.1.symm) hown hts (kS_markOpen l D cs ad hI M s.heap.size (aN A) hN hn hC.pok) w_188 w_185 w_187 ws_sel_S_markOpen w_1 ⟨rfl, hd_S_markOpen⟩ rfl ⟨rfl, rfl⟩ ⟨Nat.le_of_ble_eq_true rfl, Nat.le_of_ble_eq_true rfl⟩ (fun _ _ _ _ h => h.calling) (bc_recv (r := (RS, TS, 14)) hE hP 0 (by decide) rfl rfl) (fun U hU hW => ⟨by rw [hU], by rw [hU]; exact hP, hE.warm hW⟩) rfl (Nat.le_of_ble_eq_true rfl) dS_seen_1 ⟨Nat.le_of_ble_eq_true rfl, Nat.le_of_ble_eq_true rfl⟩) hS (fun M_1 H locs hr_1 hP hS => ?_)
  refine lv_iconst (v := nI 0) hx hb dS_seen_4 (by decide) ?_
  refine lv_istore_n (lv' := [(1, .int (nI 0)), (0, .ref (ad 0))]) hx hb dS_seen_5 rfl hl (by decide) rfl (fun ls hl => ?_)
  refine lv_iconst (v := nI 0) hx hb dS_seen_6 (by decide) ?_
  refine lv_istore_n (lv' := [(2, .int (nI 0)), (1, .int (nI 0)), (0, .ref (ad 0))]) hx hb dS_seen_7 rfl hl (by decide) rfl (fun ls hl => ?_)
  have loop : ∀ k : Nat, (∀ (z : Nat) (d : Nat)  (M1 : Nat → Nat → Int32) (H : Heap) (locs : List Loc) (ls : Array Slot), d ≤ aN A → M1 = M_1 ∧ z = cntB (sawB A) d → aN A - d < k → va_P D cls3 (bw ad 162 (fun j => sc_cell cs ad j (M1 j))) H → va_S (bw_A ad 162 s.heap.size) s.heap H locs → lv_has ls 3 [(1, .int (nI z)), (2, .int (nI d)), (0, .ref (ad 0))] → W p l e (headSpec (wc yS_seen cS_seen 3 (some .int)) ({ frames := 1, cells := 0, slots := 0, locals := 22 } : Room)).room s m ([.ref (ad 0)] : List Value).toArray below meth c H locs 0 0 (MQ below (bQi D ad 162 (sc_cell cs ad) s.heap.size (fun r M1 => r = nI (cntB (sawB A) (aN A)) ∧ Cls A M1)) ([.ref (ad 0)] : List Value).toArray s 0 0 (bw_A ad 162 s.heap.size)) (F0 m 8 ls [])) := by
    intro k
    induction k with
    | zero => exact by intros; omega
    | succ k ih =>
      intro z d  M1 H locs ls hd hinv hmu hP hS hl
      refine lv_iload_n hx hb dS_seen_8 rfl (lv_at hl 1 rfl) ?_
      refine lv_aload_n hx hb dS_seen_9 rfl (lv_at hl 2 rfl) ?_
      refine bw_get (own := RS) (ci := 1) (C := RS) (T := TS) (N := 14) (v := .int (M1 0 0)) hx hb hts inS hown hE hP 0 (by decide) rfl rfl 0 (by decide) w_88 rfl rfl dS_seen_10 ?_
      refine ln_asi (nI (aN A)) (by rw [hinv.1, hr_1.1 0 (by decide)]; exact hn) ?_
      refine ln_icmp_ge (tgt := 33) hx hb dS_seen_13 (by decide) (by omega) (by omega) (fun c_13 => ?_) (fun c_13 => ?_)
      · skip
        refine lv_iload_n hx hb dS_seen_33 rfl (lv_at hl 0 rfl) ?_
        exact W.iret (v := nI z) hx hb hr (fun t ht hW => ⟨⟨_, M1, rfl, ⟨by rw [hinv.2, show d = aN A by omega], by rw [hinv.1]; exact hC.marked hr_1⟩, by show va_P _ _ _ t.heap; rw [ht]; exact hP⟩, hS.F ht⟩) hS.2.2 dS_seen_34
      · skip
        refine lv_aload_n hx hb dS_seen_16 rfl (lv_at hl 2 rfl) ?_
        refine lv_iload_n hx hb dS_seen_17 rfl (lv_at hl 1 rfl) ?_
        refine vp_callSi (va_Run.run (bc_runV (own := RS) (C := RS) (As := [.int (nI d)]) (rest := []) hx hb (hml.trans hl.1.symm) hown hts (kS_isSeen l D cs ad hI M1 H.size d (by omega)) w_192 w_189 w_191 ws_sel_S_isSeen w_1 ⟨rfl, hd_S_isSeen⟩ rfl ⟨rfl, rfl⟩ ⟨Nat.le_of_ble_eq_true rfl, Nat.le_of_ble_eq_true rfl⟩ (fun _ _ _ _ h => h.calling) (bc_recv (r := (RS, TS, 14)) hE hP 0 (by decide) rfl rfl) (fun U hU hW => ⟨by rw [hU], by rw [hU]; exact hP, hE.warm hW⟩) rfl (Nat.le_of_ble_eq_true rfl) dS_seen_18 ⟨Nat.le_of_ble_eq_true rfl, Nat.le_of_ble_eq_true rfl⟩)) (fun r_18 hr_18 => ?_)
        rw [hinv.1] at hr_18
        refine lv_if_eq (tgt := 27) hx hb dS_seen_21 (by decide) (fun c_21 => ?_) (fun c_21 => ?_)
        · skip
          refine lv_iinc (v := nI (d + 1)) (lv' := [(2, .int (nI (d + 1))), (1, .int (nI z)), (0, .ref (ad 0))]) hx hb dS_seen_27 hl (k := 1) rfl (nI_add d 1) (by decide) rfl (fun ls hl => ?_)
          refine lv_goto (tgt := 8) hx hb dS_seen_30 (by decide) ?_
          exact ih z (d + 1)  M1 H locs ls (by omega) (⟨hinv.1, by rw [cntB, if_neg (fun q => hr_18.f c_21 ((hC.sawM hr_1 (by omega)).mpr q))]; exact hinv.2⟩) (by omega) hP hS (lv_sub hl [1, 0, 2] rfl)
        · skip
          refine lv_iinc (v := nI (z + 1)) (lv' := [(1, .int (nI (z + 1))), (2, .int (nI d)), (0, .ref (ad 0))]) hx hb dS_seen_24 hl (k := 0) rfl (nI_add z 1) (by decide) rfl (fun ls hl => ?_)
          refine lv_iinc (v := nI (d + 1)) (lv' := [(2, .int (nI (d + 1))), (1, .int (nI (z + 1))), (0, .ref (ad 0))]) hx hb dS_seen_27 hl (k := 1) rfl (nI_add d 1) (by decide) rfl (fun ls hl => ?_)
          refine lv_goto (tgt := 8) hx hb dS_seen_30 (by decide) ?_
          exact ih (z + 1) (d + 1)  M1 H locs ls (by omega) (⟨hinv.1, by rw [cntB, if_pos ((hC.sawM hr_1 (by omega)).mp (hr_18.t c_21)), hinv.2]⟩) (by omega) hP hS (lv_sub hl [1, 0, 2] rfl)
  exact (loop 100000) 0 0  M_1 H locs ls (by omega) (⟨rfl, rfl⟩) (by omega) hP hS (lv_sub hl [1, 0, 2] rfl)

set_option maxHeartbeats 4000000 in
set_option maxRecDepth 100000 in
theorem kS_inOrder (l : Launch) (D : va_G) (cs : Nat → ClassId) (ad : Nat → Nat) (hI : bw_I ad 162) (M : Nat → Nat → Int32) (sz : Nat) (A : Ab) (hC : Cls A M) (k : Int32)  : Met l yS_inOrder (wc yS_inOrder cS_inOrder 3 (some .int)) ({ frames := 6, cells := 0, slots := 0, locals := 133 } : Room) (va_Pc [.ref (ad 0), .int k] (sP D cs ad M sz)) (bQi D ad 162 (sc_cell cs ad) sz (fun r M1 => oAns A k r ∧ Cls A M1)) 0 0 (bw_A ad 162 sz) := by
  refine Met.ofW (cc := cS_inOrder) (maxL := 3) (ret := (some .int)) (by decide +kernel) rfl ?_
  intro p e s m args below meth c s₁ B hml hv
  obtain ⟨rfl, hsz, hP, hE⟩ := hv
  subst hsz
  have hx := B.exec
  have hb := B.bytes
  have hr := B.returns
  have hts : ∀ w9 ∈ ws_all, w9.before ([.ref (ad 0), .int k] : List Value).toArray s = true := fun w9 h => atoms_spec (ws := (wc yS_inOrder cS_inOrder 3 (some .int))) B.pre w9 (List.mem_cons_of_mem _ h)
  have hown : s.vm.findClass RS = some m.cls := findClass_of_methodNamed B.named
  have hlocks := B.notSynchronized
  have hS : va_S (bw_A ad 162 s.heap.size) s.heap s.heap [] := va_S.rf
  have hl := lv_entry ([.ref (ad 0), .int k]) (n := 3) (Nat.le_of_ble_eq_true rfl)
  rw [lg_entry_eq]
  generalize (lg_sl ([.ref (ad 0), .int k]) ++ List.replicate (3 - (lg_sl ([.ref (ad 0), .int k])).length) Slot.unset).toArray = ls at hl ⊢
  have hl : lv_has ls 3 [(0, .ref (ad 0)), (1, .int k)] := hl
  obtain ⟨hA, hn, hrow, heye, hview, hz, rr, hrr, hr7, hw⟩ := id hC
  have hN : aN A ≤ 48 := hA.1
  refine lv_iload_n hx hb dS_inOrder_0 rfl (lv_at hl 1 rfl) ?_
  refine lv_if_lt (tgt := 12) hx hb dS_inOrder_1 (by decide) (fun c_1 => ?_) (fun c_1 => ?_)
  · skip
    refine lv_iconst (v := (-1)) hx hb dS_inOrder_12 (by decide) ?_
    exact W.iret (v := (-1)) hx hb hr (fun t ht hW => ⟨⟨_, M, rfl, ⟨⟨fun h9 => absurd h9.1 (by simp only [Int32.lt_iff_toInt_lt, Int32.le_iff_toInt_le, nI, Int32.reduceOfNat, Int32.reduceToInt] at c_1 ⊢; omega), fun _ => rfl⟩, hC⟩, by show va_P _ _ _ t.heap; rw [ht]; exact hP⟩, hS.F ht⟩) hS.2.2 dS_inOrder_13
  · skip
    refine lv_iload_n hx hb dS_inOrder_4 rfl (lv_at hl 1 rfl) ?_
    refine lv_aload_n hx hb dS_inOrder_5 rfl (lv_at hl 0 rfl) ?_
    refine bw_get (own := RS) (ci := 1) (C := RS) (T := TS) (N := 14) (v := .int (M 0 0)) hx hb hts inS hown hE hP 0 (by decide) rfl rfl 0 (by decide) w_88 rfl rfl dS_inOrder_6 ?_
    refine ln_asi (nI (aN A)) (by exact hn) ?_
    refine lv_icmp_lt (tgt := 14) hx hb dS_inOrder_9 (by decide) (fun c_9 => ?_) (fun c_9 => ?_)
    · skip
      have hk9 : 0 ≤ k ∧ k < nI (aN A) := by simp only [Int32.lt_iff_toInt_lt, Int32.le_iff_toInt_le, nI, Int32.reduceOfNat, Int32.reduceToInt] at c_1 ⊢; exact ⟨by omega, by simpa only [Int32.lt_iff_toInt_lt, Int32.le_iff_toInt_le, nI, Int32.reduceOfNat, Int32.reduceToInt] using c_9⟩
      obtain ⟨v, hv, rfl⟩ := rng_lt hk9.1 hk9.2 (by omega)
      refine lv_aload_n hx hb dS_inOrder_14 rfl (lv_at hl 0 rfl) ?_
      refine bc_calli (bc_runV (own := RS) (C := RS) (As := []) (rest := []) hx hb (hml.trans hl.1.symm) hown hts (kS_putInOrder l D cs ad hI M s.heap.size (aN A) rr hN hn hrr hC.pok hr7 hw hC.kok) w_200 w_197 w_199 ws_sel_S_putInOrder w_1 ⟨rfl, hd_S_putInOrder⟩ rfl ⟨rfl, rfl⟩ ⟨Nat.le_of_ble_eq_true rfl, Nat.le_of_ble_eq_true rfl⟩ (fun _ _ _ _ h => h.calling) (bc_recv (r := (RS, TS, 14)) hE hP 0 (by decide) rfl rfl) (fun U hU hW => ⟨by rw [hU], by rw [hU]; exact hP, hE.warm hW⟩) rfl (Nat.le_of_ble_eq_true rfl) dS_inOrder_15 ⟨Nat.le_of_ble_eq_true rfl, Nat.le_of_ble_eq_true rfl⟩) hS (fun r_15 M_1 H locs hr_15 hP hS => ?_)
      obtain ⟨z, o, M0, hz15, hR, hpI⟩ := hr_15
      have hz9 : z ≤ aN A := hpI.2.1
      obtain ⟨hC1, hsr⟩ := hC.put hrr hR hpI
      refine ln_asi (nI z) (by exact hz15) ?_
      refine lv_istore_n (lv' := [(2, .int (nI z)), (0, .ref (ad 0)), (1, .int (nI v))]) hx hb dS_inOrder_18 rfl hl (by decide) rfl (fun ls hl => ?_)
      refine lv_iload_n hx hb dS_inOrder_19 rfl (lv_at hl 2 rfl) ?_
      refine lv_iload_n hx hb dS_inOrder_20 rfl (lv_at hl 0 rfl) ?_
      refine ln_icmp_ge (tgt := 33) hx hb dS_inOrder_21 (by decide) (by omega) (by omega) (fun c_21 => ?_) (fun c_21 => ?_)
      · skip
        refine lv_iconst (v := (-1)) hx hb dS_inOrder_33 (by decide) ?_
        exact W.iret (v := (-1)) hx hb hr (fun t ht hW => ⟨⟨_, M_1, rfl, ⟨⟨fun _ => ⟨z, o, hsr, v, hv, rfl, Or.inr ⟨c_21, rfl⟩⟩, fun h9 => absurd hk9 h9⟩, hC1⟩, by show va_P _ _ _ t.heap; rw [ht]; exact hP⟩, hS.F ht⟩) hS.2.2 dS_inOrder_34
      · skip
        refine lv_aload_n hx hb dS_inOrder_24 rfl (lv_at hl 1 rfl) ?_
        refine bw_get (own := RS) (ci := 1) (C := RS) (T := TS) (N := 14) (v := .ref (ad 155)) hx hb hts inS hown hE hP 0 (by decide) rfl rfl 12 (by decide) w_100 rfl rfl dS_inOrder_25 ?_
        refine lv_iload_n hx hb dS_inOrder_28 rfl (lv_at hl 2 rfl) ?_
        refine ln_iald (L := 48) (g := (M_1 155)) hx hb hE hP 155 0 (by decide) (rfl) rfl (by omega) (by decide) dS_inOrder_29 ?_
        refine lv_goto (tgt := 34) hx hb dS_inOrder_30 (by decide) ?_
        exact W.iret (v := M_1 155 v) hx hb hr (fun t ht hW => ⟨⟨_, M_1, rfl, ⟨⟨fun _ => ⟨z, o, hsr, v, hv, rfl, Or.inl ⟨c_21, hpI.2.2.2.1 v c_21⟩⟩, fun h9 => absurd hk9 h9⟩, hC1⟩, by show va_P _ _ _ t.heap; rw [ht]; exact hP⟩, hS.F ht⟩) hS.2.2 dS_inOrder_34
    · skip
      refine lv_iconst (v := (-1)) hx hb dS_inOrder_12 (by decide) ?_
      exact W.iret (v := (-1)) hx hb hr (fun t ht hW => ⟨⟨_, M, rfl, ⟨⟨fun h9 => absurd h9.2 c_9, fun _ => rfl⟩, hC⟩, by show va_P _ _ _ t.heap; rw [ht]; exact hP⟩, hS.F ht⟩) hS.2.2 dS_inOrder_13
end
section
/-! THE METHODS THAT THROW (the class): world, model, about -/
def nse : String := "java/util/NoSuchElementException"
def nseUp : List String := ["java/lang/RuntimeException", "java/lang/Exception"]
def thrW : List Cond := [.castable nse nse, .declares (Bundle.init0 "java/lang/RuntimeException"), .declares (Bundle.init0 "java/lang/Exception"), .declares (Bundle.init0 "java/lang/Throwable")]
def thrOk (U : State) : Prop := ∀ w ∈ thrW, va_Nw w U
theorem thrOk.warm {s U : State} (hW : s.WarmedH U.vm) (h : thrOk s) : thrOk U := by
  intro w hw
  have h1 := h w hw
  simp only [thrW, List.mem_cons, List.not_mem_nil, or_false] at hw
  rcases hw with rfl | rfl | rfl | rfl
  · exact va_Nw.warmC hW h1
  · exact va_Nw.warmD hW h1
  · exact va_Nw.warmD hW h1
  · exact va_Nw.warmD hW h1
theorem thrOk.same {s U : State} (h : s.vm = U.vm) (hn : thrOk s) : thrOk U := by
  intro w hw
  have h1 := hn w hw
  simp only [thrW, List.mem_cons, List.not_mem_nil, or_false] at hw
  rcases hw with rfl | rfl | rfl | rfl <;> exact va_Nw.same rfl h h1
theorem at0_good : ∀ w ∈ (vx_at0 RS 95 nse nseUp).filter goodWord, w ∈ ws_all := fun w h => ws_in ((by decide +kernel : ∀ w ∈ (vx_at0 RS 95 nse nseUp).filter goodWord, w ∈ lw_tbl) w h) (List.mem_filter.mp h).2
theorem at0_rest : ∀ w ∈ (vx_at0 RS 95 nse nseUp).filter (fun w => !goodWord w), w ∈ thrW := by decide +kernel
theorem at0_ot : ∀ w ∈ Cond.classLink RS 93 nse :: Cond.initialized nse :: vx_at0 RS 95 nse nseUp, vx_ot w = true := by decide +kernel
theorem thrW_ot : ∀ w ∈ thrW, w.onTables = true := by decide +kernel
theorem at0_all {args : Array Value} {s : State} (hts : ∀ w ∈ ws_all, w.before args s = true) (ht : thrOk s) : ∀ w ∈ vx_at0 RS 95 nse nseUp, w.before args s = true :=
  vx_hat (fun w h => hts w (at0_good w h)) at0_rest (fun w h => va_Nw.use (thrW_ot w h) (ht w h))
/-- Throwable's two statics, which nobody writes -/
def sZ (A : Nat → Prop) (U : State) : Prop := vx_Zq Bundle.tN "UNASSIGNED_STACK" Bundle.steD A U U.heap ∧ vx_Zq Bundle.tN "SUPPRESSED_SENTINEL" Bundle.listD A U U.heap
def xP (D : va_G) (cs : Nat → ClassId) (ad : Nat → Nat) (M : Nat → Nat → Int32) (sz : Nat) (U : State) : Prop := sP D cs ad M sz U ∧ thrOk U ∧ sZ (bw_A ad 162 sz) U
theorem xP.calling {D : va_G} {cs : Nat → ClassId} {ad : Nat → Nat} {M : Nat → Nat → Int32} {sz : Nat} {U : State} {g : JFrame} {mk : MethodId} {a : Array Value} (h : xP D cs ad M sz U) : xP D cs ad M sz (U.calling g mk a) :=
  ⟨bPre.calling h.1, thrOk.same (s := U) rfl h.2.1, vx_Zq.moved (u := U) (U := U.calling g mk a) (Vm.Alike.refl U.vm) h.2.2.1, vx_Zq.moved (u := U) (U := U.calling g mk a) (Vm.Alike.refl U.vm) h.2.2.2⟩
def pCell (A : Ab) (n i j : Int32) : Prop := pNode A n ∧ (0 ≤ i ∧ i < 3) ∧ (0 ≤ j ∧ j < 4)
def pAbt (A : Ab) (n w : Int32) : Prop := pNode A n ∧ (0 ≤ w ∧ w < nI 12)
def wA (A : Ab) (n : Nat) : Nat → Int32 := jworld (aP A) (fun n => jlocal (aU A n)) n
def mA (A : Ab) (n i j : Nat) : Int32 := jprod (jview (aE A)) (wA A n) i j
def abA (A : Ab) (n u : Nat) : Int32 := if u = 0 then aP A n else if u = 1 then aK A n else if u = 2 then (if aH A n = 0 then nI 0 else nI 1) else aU A n (u - 3)
/-- what a throw leaves -/
abbrev xX (D : va_G) (cs : Nat → ClassId) (ad : Nat → Nat) (sz : Nat) (px : (Nat → Nat → Int32) → Prop) : String → State → State → Prop := vx_X px (fun E M1 t => E = nse ∧ va_P D cls3 (bw ad 162 (fun k => sc_cell cs ad k (M1 k))) t.heap) (bw_A ad 162 sz)
theorem xX_of {D : va_G} {cs : Nat → ClassId} {ad : Nat → Nat} {s t : State} {px : (Nat → Nat → Int32) → Prop} {M : Nat → Nat → Int32} (hp : px M) (hP : va_P D cls3 (bw ad 162 (fun k => sc_cell cs ad k (M k))) s.heap) (hz : s.heap.size ≤ t.heap.size) (hq : ∀ q : Nat, q < s.heap.size → t.heap[q]? = s.heap[q]?) : xX D cs ad s.heap.size px nse s t :=
  ⟨M, hp, ⟨rfl, hP.kept (fun k q hk => hq q.1 ((hP k q hk).lt))⟩, hz, fun q h1 _ => hq q h1⟩
theorem Cls.ready {A : Ab} {M M1 : Nat → Nat → Int32} {r u : Nat} (h : Cls A M) (hr : r ≤ aN A) (hu : u ≤ aN A) (h1 : (∀ q, 0 < q → (q < 103 ∨ 151 ≤ q) → M1 q = M q) ∧ (∀ t, t ≠ 7 → M1 0 t = M 0 t) ∧ M1 0 7 = nI (max r u) ∧ wOk M1 (max r u)) : Cls A M1 ∧ ∀ n, n < u → ∀ t, t < 12 → M1 (103 + n) t = wA A n t := by
  have hN := h.1.1
  obtain ⟨a1, a2, a3, a4⟩ := h1
  refine ⟨h.cache (fun q h0 _ _ _ h4 => a1 q h0 h4) a2 ⟨max r u, by omega, a3, a4⟩, fun n hn t ht => ?_⟩
  rw [a4 n (by omega) t ht]
  refine jworld_congr h.1.2.1 (by omega) (fun k hk => ?_) (fun k hk t ht => ?_) n (by omega) t ht
  · rw [a1 1 (by decide) (by decide)]; exact (h.2.2.1 k hk).1
  · show M1 (54 + k) t = jlocal (aU A k) t
    rw [a1 (54 + k) (by omega) (by omega)]; exact (h.2.2.1 k hk).2.2.2.2 t ht

set_option maxHeartbeats 4000000 in
set_option maxRecDepth 100000 in
theorem kS_world (l : Launch) (hl0 : l.stackTraces = false) (D : va_G) (cs : Nat → ClassId) (ad : Nat → Nat) (hI : bw_I ad 162) (M : Nat → Nat → Int32) (sz : Nat) (A : Ab) (hC : Cls A M) (n i j : Int32) : vx_Met l yS_world (wc yS_world cS_world 4 (some .int)) ({ frames := 6, cells := 1, slots := 6, locals := 111 } : Room) (va_Pc [.ref (ad 0), .int n, .int i, .int j] (xP D cs ad M sz)) (bQi D ad 162 (sc_cell cs ad) sz (fun r M1 => r = wA A n.toNatClampNeg (4 * i.toNatClampNeg + j.toNatClampNeg) ∧ pCell A n i j ∧ Cls A M1)) (xX D cs ad sz (fun M1 => ¬ pCell A n i j ∧ Cls A M1)) 1 6 (bw_A ad 162 sz) := by
  refine vx_ofW (cc := cS_world) (maxL := 4) (ret := (some .int)) (by decide +kernel) rfl ?_
  intro p e s m args below meth c s₁ B hml hexT hv
  obtain ⟨rfl, ⟨hsz, hP, hE⟩, hthr, hsZ⟩ := hv
  subst hsz
  have hx := B.exec
  have hb := B.bytes
  have hr := B.returns
  have hts : ∀ w9 ∈ ws_all, w9.before ([.ref (ad 0), .int n, .int i, .int j] : List Value).toArray s = true := fun w9 h => atoms_spec (ws := (wc yS_world cS_world 4 (some .int))) B.pre w9 (List.mem_cons_of_mem _ h)
  have hown : s.vm.findClass RS = some m.cls := findClass_of_methodNamed B.named
  have hlocks := B.notSynchronized
  have hS : va_S (bw_A ad 162 s.heap.size) s.heap s.heap [] := va_S.rf
  have hl := lv_entry ([.ref (ad 0), .int n, .int i, .int j]) (n := 4) (Nat.le_of_ble_eq_true rfl)
  rw [lg_entry_eq]
  generalize (lg_sl ([.ref (ad 0), .int n, .int i, .int j]) ++ List.replicate (4 - (lg_sl ([.ref (ad 0), .int n, .int i, .int j])).length) Slot.unset).toArray = ls at hl ⊢
  have hl : lv_has ls 4 [(0, .ref (ad 0)), (1, .int n), (2, .int i), (3, .int j)] := hl
  obtain ⟨hA, hn, hrow, heye, hview, hz, rr, hrr, hr7, hw⟩ := id hC
  have hN : aN A ≤ 48 := hA.1
  refine lv_aload_n hx hb dS_world_0 rfl (lv_at hl 0 rfl) ?_
  refine lv_iload_n hx hb dS_world_1 rfl (lv_at hl 1 rfl) ?_
  refine vp_callSi (va_Run.run (bc_runV (own := RS) (C := RS) (As := [.int n]) (rest := []) hx hb (hml.trans hl.1.symm) hown hts (kS_isNode l D cs ad hI M s.heap.size n) w_157 w_154 w_156 ws_sel_S_isNode w_1 ⟨rfl, hd_S_isNode⟩ rfl ⟨rfl, rfl⟩ ⟨Nat.le_of_ble_eq_true rfl, Nat.le_of_ble_eq_true rfl⟩ (fun _ _ _ _ h => h.calling) (bc_recv (r := (RS, TS, 14)) hE hP 0 (by decide) rfl rfl) (fun U hU hW => ⟨by rw [hU], by rw [hU]; exact hP, hE.warm hW⟩) rfl (Nat.le_of_ble_eq_true rfl) dS_world_2 ⟨Nat.le_of_ble_eq_true rfl, Nat.le_of_ble_eq_true rfl⟩)) (fun r_2 hr_2 => ?_)
  rw [hn] at hr_2
  refine lv_if_eq (tgt := 16) hx hb dS_world_5 (by decide) (fun c_5 => ?_) (fun c_5 => ?_)
  · skip
    exact vx_throw0 (own := RS) (cls := nse) (names := nseUp) (ik := 93) (ic := 95) (A := bw_A ad 162 s.heap.size) hx hb hl0 hown (by decide +kernel) (by decide +kernel) (hts _ w_235) (hts _ w_8) (at0_all hts hthr) at0_ot hsZ.1 hsZ.2 hS (hl.1.trans hml.symm) dS_world_16 dS_world_19 dS_world_20 dS_world_23 (fun x h => (hexT x h).elim) (by decide) (by decide) (by decide) (by decide) hlocks (fun t _ hz9 hq9 => xX_of (⟨fun h9 => hr_2.f c_5 h9.1, hC⟩) hP hz9 hq9) hS.2.2 (by decide) (by decide)
  · skip
    refine lv_iload_n hx hb dS_world_8 rfl (lv_at hl 2 rfl) ?_
    refine lv_iload_n hx hb dS_world_9 rfl (lv_at hl 3 rfl) ?_
    refine vp_callSi (va_Run.run (bc_runS (own := RS) (As := [.int i, .int j]) (rest := []) hx hb (hml.trans hl.1.symm) hown hts (kS_isCell l i j) w_234 w_232 w_233 w_1 hd_S_isCell rfl ⟨rfl, rfl⟩ ⟨Nat.le_of_ble_eq_true rfl, Nat.le_of_ble_eq_true rfl⟩ (fun _ _ _ _ _ => trivial) (fun _ _ _ => trivial) rfl (Nat.le_of_ble_eq_true rfl) dS_world_10 ⟨Nat.le_of_ble_eq_true rfl, Nat.le_of_ble_eq_true rfl⟩)) (fun r_10 hr_10 => ?_)
    refine lv_if_ne (tgt := 24) hx hb dS_world_13 (by decide) (fun c_13 => ?_) (fun c_13 => ?_)
    · skip
      have hp9 : pCell A n i j := ⟨hr_2.t c_5, hr_10.t c_13⟩
      obtain ⟨d, hd, rfl⟩ := rng_lt hp9.1.1 hp9.1.2 (by omega)
      obtain ⟨u, hu, rfl⟩ := rng_lt (a := 3) hp9.2.1.1 hp9.2.1.2 (by decide)
      obtain ⟨v, hv, rfl⟩ := rng_lt (a := 4) hp9.2.2.1 hp9.2.2.2 (by decide)
      refine lv_aload_n hx hb dS_world_24 rfl (lv_at hl 0 rfl) ?_
      refine lv_iload_n hx hb dS_world_25 rfl (lv_at hl 1 rfl) ?_
      refine lv_iconst (v := nI 1) hx hb dS_world_26 (by decide) ?_
      refine ln_iadd hx hb dS_world_27 ?_
      refine bc_callv (bc_runV (own := RS) (C := RS) (As := [.int (nI (d + 1))]) (rest := []) hx hb (hml.trans hl.1.symm) hown hts (kS_readyWorlds l D cs ad hI M s.heap.size (aN A) (d + 1) rr hN (by omega) hrr hC.pok hr7 hw) w_204 w_201 w_203 ws_sel_S_readyWorlds w_1 ⟨rfl, hd_S_readyWorlds⟩ rfl ⟨rfl, rfl⟩ ⟨Nat.le_of_ble_eq_true rfl, Nat.le_of_ble_eq_true rfl⟩ (fun _ _ _ _ h => h.calling) (bc_recv (r := (RS, TS, 14)) hE hP 0 (by decide) rfl rfl) (fun U hU hW => ⟨by rw [hU], by rw [hU]; exact hP, hE.warm hW⟩) rfl (Nat.le_of_ble_eq_true rfl) dS_world_28 ⟨Nat.le_of_ble_eq_true rfl, Nat.le_of_ble_eq_true rfl⟩) hS (fun M_1 H locs hr_28 hP hS => ?_)
      obtain ⟨hC1, hw1⟩ := hC.ready hrr (by omega) hr_28
      refine lv_aload_n hx hb dS_world_31 rfl (lv_at hl 0 rfl) ?_
      refine bw_get (own := RS) (ci := 1) (C := RS) (T := TS) (N := 14) (v := .ref (ad 102)) hx hb hts inS hown hE hP 0 (by decide) rfl rfl 6 (by decide) w_94 rfl rfl dS_world_32 ?_
      refine lv_iload_n hx hb dS_world_35 rfl (lv_at hl 1 rfl) ?_
      refine ln_aald (L := 48) hx hb hE hP 102 2 (by decide) (rfl) rfl (by omega) (by decide) (a := ad (103 + d)) (by first | rfl | (show (if _ then _ else _) = _; rw [if_pos (by omega)])) dS_world_36 ?_
      refine lv_iconst (v := nI 4) hx hb dS_world_37 (by decide) ?_
      refine lv_iload_n hx hb dS_world_38 rfl (lv_at hl 2 rfl) ?_
      refine ln_imul hx hb dS_world_39 ?_
      refine lv_iload_n hx hb dS_world_40 rfl (lv_at hl 3 rfl) ?_
      refine ln_iadd hx hb dS_world_41 ?_
      refine ln_iald (L := 12) (g := (M_1 (103 + d))) hx hb hE hP (103 + d) 0 (by omega) (sc_row103 (by omega)) rfl (by omega) (by decide) dS_world_42 ?_
      refine W.widen (k := 1) (n := 6) (by decide) (by decide) ?_
      exact vx_ret (W.iret (v := M_1 (103 + d) ((4 * u) + v)) hx hb hr (fun t ht hW => ⟨⟨_, M_1, rfl, ⟨by rw [nI_clamp (by omega), nI_clamp (by omega), nI_clamp (by omega)]; exact hw1 d (by omega) (4 * u + v) (by omega), hp9, hC1⟩, by show va_P _ _ _ t.heap; rw [ht]; exact hP⟩, hS.F ht⟩) hS.2.2 dS_world_43)
    · skip
      exact vx_throw0 (own := RS) (cls := nse) (names := nseUp) (ik := 93) (ic := 95) (A := bw_A ad 162 s.heap.size) hx hb hl0 hown (by decide +kernel) (by decide +kernel) (hts _ w_235) (hts _ w_8) (at0_all hts hthr) at0_ot hsZ.1 hsZ.2 hS (hl.1.trans hml.symm) dS_world_16 dS_world_19 dS_world_20 dS_world_23 (fun x h => (hexT x h).elim) (by decide) (by decide) (by decide) (by decide) hlocks (fun t _ hz9 hq9 => xX_of (⟨fun h9 => hr_10.f c_13 h9.2, hC⟩) hP hz9 hq9) hS.2.2 (by decide) (by decide)

set_option maxHeartbeats 4000000 in
set_option maxRecDepth 100000 in
theorem kS_model (l : Launch) (hl0 : l.stackTraces = false) (D : va_G) (cs : Nat → ClassId) (ad : Nat → Nat) (hI : bw_I ad 162) (M : Nat → Nat → Int32) (sz : Nat) (A : Ab) (hC : Cls A M) (n i j : Int32) : vx_Met l yS_model (wc yS_model cS_model 4 (some .int)) ({ frames := 6, cells := 1, slots := 6, locals := 111 } : Room) (va_Pc [.ref (ad 0), .int n, .int i, .int j] (xP D cs ad M sz)) (bQi D ad 162 (sc_cell cs ad) sz (fun r M1 => r = mA A n.toNatClampNeg i.toNatClampNeg j.toNatClampNeg ∧ pCell A n i j ∧ Cls A M1)) (xX D cs ad sz (fun M1 => ¬ pCell A n i j ∧ Cls A M1)) 1 6 (bw_A ad 162 sz) := by
  refine vx_ofW (cc := cS_model) (maxL := 4) (ret := (some .int)) (by decide +kernel) rfl ?_
  intro p e s m args below meth c s₁ B hml hexT hv
  obtain ⟨rfl, ⟨hsz, hP, hE⟩, hthr, hsZ⟩ := hv
  subst hsz
  have hx := B.exec
  have hb := B.bytes
  have hr := B.returns
  have hts : ∀ w9 ∈ ws_all, w9.before ([.ref (ad 0), .int n, .int i, .int j] : List Value).toArray s = true := fun w9 h => atoms_spec (ws := (wc yS_model cS_model 4 (some .int))) B.pre w9 (List.mem_cons_of_mem _ h)
  have hown : s.vm.findClass RS = some m.cls := findClass_of_methodNamed B.named
  have hlocks := B.notSynchronized
  have hS : va_S (bw_A ad 162 s.heap.size) s.heap s.heap [] := va_S.rf
  have hl := lv_entry ([.ref (ad 0), .int n, .int i, .int j]) (n := 4) (Nat.le_of_ble_eq_true rfl)
  rw [lg_entry_eq]
  generalize (lg_sl ([.ref (ad 0), .int n, .int i, .int j]) ++ List.replicate (4 - (lg_sl ([.ref (ad 0), .int n, .int i, .int j])).length) Slot.unset).toArray = ls at hl ⊢
  have hl : lv_has ls 4 [(0, .ref (ad 0)), (1, .int n), (2, .int i), (3, .int j)] := hl
  obtain ⟨hA, hn, hrow, heye, hview, hz, rr, hrr, hr7, hw⟩ := id hC
  have hN : aN A ≤ 48 := hA.1
  refine lv_aload_n hx hb dS_model_0 rfl (lv_at hl 0 rfl) ?_
  refine lv_iload_n hx hb dS_model_1 rfl (lv_at hl 1 rfl) ?_
  refine vp_callSi (va_Run.run (bc_runV (own := RS) (C := RS) (As := [.int n]) (rest := []) hx hb (hml.trans hl.1.symm) hown hts (kS_isNode l D cs ad hI M s.heap.size n) w_157 w_154 w_156 ws_sel_S_isNode w_1 ⟨rfl, hd_S_isNode⟩ rfl ⟨rfl, rfl⟩ ⟨Nat.le_of_ble_eq_true rfl, Nat.le_of_ble_eq_true rfl⟩ (fun _ _ _ _ h => h.calling) (bc_recv (r := (RS, TS, 14)) hE hP 0 (by decide) rfl rfl) (fun U hU hW => ⟨by rw [hU], by rw [hU]; exact hP, hE.warm hW⟩) rfl (Nat.le_of_ble_eq_true rfl) dS_model_2 ⟨Nat.le_of_ble_eq_true rfl, Nat.le_of_ble_eq_true rfl⟩)) (fun r_2 hr_2 => ?_)
  rw [hn] at hr_2
  refine lv_if_eq (tgt := 16) hx hb dS_model_5 (by decide) (fun c_5 => ?_) (fun c_5 => ?_)
  · skip
    exact vx_throw0 (own := RS) (cls := nse) (names := nseUp) (ik := 93) (ic := 95) (A := bw_A ad 162 s.heap.size) hx hb hl0 hown (by decide +kernel) (by decide +kernel) (hts _ w_235) (hts _ w_8) (at0_all hts hthr) at0_ot hsZ.1 hsZ.2 hS (hl.1.trans hml.symm) dS_model_16 dS_model_19 dS_model_20 dS_model_23 (fun x h => (hexT x h).elim) (by decide) (by decide) (by decide) (by decide) hlocks (fun t _ hz9 hq9 => xX_of (⟨fun h9 => hr_2.f c_5 h9.1, hC⟩) hP hz9 hq9) hS.2.2 (by decide) (by decide)
  · skip
    refine lv_iload_n hx hb dS_model_8 rfl (lv_at hl 2 rfl) ?_
    refine lv_iload_n hx hb dS_model_9 rfl (lv_at hl 3 rfl) ?_
    refine vp_callSi (va_Run.run (bc_runS (own := RS) (As := [.int i, .int j]) (rest := []) hx hb (hml.trans hl.1.symm) hown hts (kS_isCell l i j) w_234 w_232 w_233 w_1 hd_S_isCell rfl ⟨rfl, rfl⟩ ⟨Nat.le_of_ble_eq_true rfl, Nat.le_of_ble_eq_true rfl⟩ (fun _ _ _ _ _ => trivial) (fun _ _ _ => trivial) rfl (Nat.le_of_ble_eq_true rfl) dS_model_10 ⟨Nat.le_of_ble_eq_true rfl, Nat.le_of_ble_eq_true rfl⟩)) (fun r_10 hr_10 => ?_)
    refine lv_if_ne (tgt := 24) hx hb dS_model_13 (by decide) (fun c_13 => ?_) (fun c_13 => ?_)
    · skip
      have hp9 : pCell A n i j := ⟨hr_2.t c_5, hr_10.t c_13⟩
      obtain ⟨d, hd, rfl⟩ := rng_lt hp9.1.1 hp9.1.2 (by omega)
      obtain ⟨u, hu, rfl⟩ := rng_lt (a := 3) hp9.2.1.1 hp9.2.1.2 (by decide)
      obtain ⟨v, hv, rfl⟩ := rng_lt (a := 4) hp9.2.2.1 hp9.2.2.2 (by decide)
      refine lv_aload_n hx hb dS_model_24 rfl (lv_at hl 0 rfl) ?_
      refine lv_iload_n hx hb dS_model_25 rfl (lv_at hl 1 rfl) ?_
      refine lv_iconst (v := nI 1) hx hb dS_model_26 (by decide) ?_
      refine ln_iadd hx hb dS_model_27 ?_
      refine bc_callv (bc_runV (own := RS) (C := RS) (As := [.int (nI (d + 1))]) (rest := []) hx hb (hml.trans hl.1.symm) hown hts (kS_readyWorlds l D cs ad hI M s.heap.size (aN A) (d + 1) rr hN (by omega) hrr hC.pok hr7 hw) w_204 w_201 w_203 ws_sel_S_readyWorlds w_1 ⟨rfl, hd_S_readyWorlds⟩ rfl ⟨rfl, rfl⟩ ⟨Nat.le_of_ble_eq_true rfl, Nat.le_of_ble_eq_true rfl⟩ (fun _ _ _ _ h => h.calling) (bc_recv (r := (RS, TS, 14)) hE hP 0 (by decide) rfl rfl) (fun U hU hW => ⟨by rw [hU], by rw [hU]; exact hP, hE.warm hW⟩) rfl (Nat.le_of_ble_eq_true rfl) dS_model_28 ⟨Nat.le_of_ble_eq_true rfl, Nat.le_of_ble_eq_true rfl⟩) hS (fun M_1 H locs hr_28 hP hS => ?_)
      obtain ⟨hC1, hw1⟩ := hC.ready hrr (by omega) hr_28
      refine lv_aload_n hx hb dS_model_31 rfl (lv_at hl 0 rfl) ?_
      refine bw_get (own := RS) (ci := 1) (C := RS) (T := TS) (N := 14) (v := .ref (ad 152)) hx hb hts inS hown hE hP 0 (by decide) rfl rfl 9 (by decide) w_97 rfl rfl dS_model_32 ?_
      refine lv_aload_n hx hb dS_model_35 rfl (lv_at hl 0 rfl) ?_
      refine bw_get (own := RS) (ci := 1) (C := RS) (T := TS) (N := 14) (v := .ref (ad 102)) hx hb hts inS hown hE hP 0 (by decide) rfl rfl 6 (by decide) w_94 rfl rfl dS_model_36 ?_
      refine lv_iload_n hx hb dS_model_39 rfl (lv_at hl 1 rfl) ?_
      refine ln_aald (L := 48) hx hb hE hP 102 2 (by decide) (rfl) rfl (by omega) (by decide) (a := ad (103 + d)) (by first | rfl | (show (if _ then _ else _) = _; rw [if_pos (by omega)])) dS_model_40 ?_
      refine lv_iload_n hx hb dS_model_41 rfl (lv_at hl 2 rfl) ?_
      refine lv_iload_n hx hb dS_model_42 rfl (lv_at hl 3 rfl) ?_
      refine vp_callSi (va_Run.run (bc_runS (own := RS) (As := [.ref (ad 152), .ref (ad (103 + d)), .int (nI u), .int (nI v)]) (rest := []) hx hb (hml.trans hl.1.symm) hown hts (kS_productAt l D cs ad hI M_1 H.size 152 (103 + d) (by decide) (by omega) (fun _ => rfl) (fun _ => sc_row103 (by omega)) u v hu hv) w_73 w_71 w_72 w_1 hd_S_productAt rfl ⟨rfl, rfl⟩ ⟨Nat.le_of_ble_eq_true rfl, Nat.le_of_ble_eq_true rfl⟩ (fun _ _ _ _ h => h.calling) (fun U hU hW => ⟨by rw [hU], by rw [hU]; exact hP, hE.warm hW⟩) rfl (Nat.le_of_ble_eq_true rfl) dS_model_43 ⟨Nat.le_of_ble_eq_true rfl, Nat.le_of_ble_eq_true rfl⟩)) (fun r_43 hr_43 => ?_)
      refine W.widen (k := 1) (n := 6) (by decide) (by decide) ?_
      exact vx_ret (W.iret (v := r_43) hx hb hr (fun t ht hW => ⟨⟨_, M_1, rfl, ⟨by rw [hr_43, nI_clamp (by omega), nI_clamp (by omega), nI_clamp (by omega)]; exact jprod_congr hC1.2.2.2.2.1 (hw1 d (by omega)) hu hv, hp9, hC1⟩, by show va_P _ _ _ t.heap; rw [ht]; exact hP⟩, hS.F ht⟩) hS.2.2 dS_model_46)
    · skip
      exact vx_throw0 (own := RS) (cls := nse) (names := nseUp) (ik := 93) (ic := 95) (A := bw_A ad 162 s.heap.size) hx hb hl0 hown (by decide +kernel) (by decide +kernel) (hts _ w_235) (hts _ w_8) (at0_all hts hthr) at0_ot hsZ.1 hsZ.2 hS (hl.1.trans hml.symm) dS_model_16 dS_model_19 dS_model_20 dS_model_23 (fun x h => (hexT x h).elim) (by decide) (by decide) (by decide) (by decide) hlocks (fun t _ hz9 hq9 => xX_of (⟨fun h9 => hr_10.f c_13 h9.2, hC⟩) hP hz9 hq9) hS.2.2 (by decide) (by decide)

set_option maxHeartbeats 4000000 in
set_option maxRecDepth 100000 in
theorem kS_about (l : Launch) (hl0 : l.stackTraces = false) (D : va_G) (cs : Nat → ClassId) (ad : Nat → Nat) (hI : bw_I ad 162) (M : Nat → Nat → Int32) (sz : Nat) (A : Ab) (hC : Cls A M) (n q : Int32) : vx_Met l yS_about (wc yS_about cS_about 3 (some .int)) ({ frames := 6, cells := 1, slots := 6, locals := 81 } : Room) (va_Pc [.ref (ad 0), .int n, .int q] (xP D cs ad M sz)) (bQi D ad 162 (sc_cell cs ad) sz (fun r M1 => r = abA A n.toNatClampNeg q.toNatClampNeg ∧ pAbt A n q ∧ Cls A M1)) (xX D cs ad sz (fun M1 => ¬ pAbt A n q ∧ Cls A M1)) 1 6 (bw_A ad 162 sz) := by
  refine vx_ofW (cc := cS_about) (maxL := 3) (ret := (some .int)) (by decide +kernel) rfl ?_
  intro p e s m args below meth c s₁ B hml hexT hv
  obtain ⟨rfl, ⟨hsz, hP, hE⟩, hthr, hsZ⟩ := hv
  subst hsz
  have hx := B.exec
  have hb := B.bytes
  have hr := B.returns
  have hts : ∀ w9 ∈ ws_all, w9.before ([.ref (ad 0), .int n, .int q] : List Value).toArray s = true := fun w9 h => atoms_spec (ws := (wc yS_about cS_about 3 (some .int))) B.pre w9 (List.mem_cons_of_mem _ h)
  have hown : s.vm.findClass RS = some m.cls := findClass_of_methodNamed B.named
  have hlocks := B.notSynchronized
  have hS : va_S (bw_A ad 162 s.heap.size) s.heap s.heap [] := va_S.rf
  have hl := lv_entry ([.ref (ad 0), .int n, .int q]) (n := 3) (Nat.le_of_ble_eq_true rfl)
  rw [lg_entry_eq]
  generalize (lg_sl ([.ref (ad 0), .int n, .int q]) ++ List.replicate (3 - (lg_sl ([.ref (ad 0), .int n, .int q])).length) Slot.unset).toArray = ls at hl ⊢
  have hl : lv_has ls 3 [(0, .ref (ad 0)), (1, .int n), (2, .int q)] := hl
  obtain ⟨hA, hn, hrow, heye, hview, hz, rr, hrr, hr7, hw⟩ := id hC
  have hN : aN A ≤ 48 := hA.1
  refine lv_aload_n hx hb dS_about_0 rfl (lv_at hl 0 rfl) ?_
  refine lv_iload_n hx hb dS_about_1 rfl (lv_at hl 1 rfl) ?_
  refine vp_callSi (va_Run.run (bc_runV (own := RS) (C := RS) (As := [.int n]) (rest := []) hx hb (hml.trans hl.1.symm) hown hts (kS_isNode l D cs ad hI M s.heap.size n) w_157 w_154 w_156 ws_sel_S_isNode w_1 ⟨rfl, hd_S_isNode⟩ rfl ⟨rfl, rfl⟩ ⟨Nat.le_of_ble_eq_true rfl, Nat.le_of_ble_eq_true rfl⟩ (fun _ _ _ _ h => h.calling) (bc_recv (r := (RS, TS, 14)) hE hP 0 (by decide) rfl rfl) (fun U hU hW => ⟨by rw [hU], by rw [hU]; exact hP, hE.warm hW⟩) rfl (Nat.le_of_ble_eq_true rfl) dS_about_2 ⟨Nat.le_of_ble_eq_true rfl, Nat.le_of_ble_eq_true rfl⟩)) (fun r_2 hr_2 => ?_)
  rw [hn] at hr_2
  refine lv_if_eq (tgt := 18) hx hb dS_about_5 (by decide) (fun c_5 => ?_) (fun c_5 => ?_)
  · skip
    exact vx_throw0 (own := RS) (cls := nse) (names := nseUp) (ik := 93) (ic := 95) (A := bw_A ad 162 s.heap.size) hx hb hl0 hown (by decide +kernel) (by decide +kernel) (hts _ w_235) (hts _ w_8) (at0_all hts hthr) at0_ot hsZ.1 hsZ.2 hS (hl.1.trans hml.symm) dS_about_18 dS_about_21 dS_about_22 dS_about_25 (fun x h => (hexT x h).elim) (by decide) (by decide) (by decide) (by decide) hlocks (fun t _ hz9 hq9 => xX_of (⟨fun h9 => hr_2.f c_5 h9.1, hC⟩) hP hz9 hq9) hS.2.2 (by decide) (by decide)
  · skip
    refine lv_iload_n hx hb dS_about_8 rfl (lv_at hl 2 rfl) ?_
    refine lv_if_lt (tgt := 18) hx hb dS_about_9 (by decide) (fun c_9 => ?_) (fun c_9 => ?_)
    · skip
      exact vx_throw0 (own := RS) (cls := nse) (names := nseUp) (ik := 93) (ic := 95) (A := bw_A ad 162 s.heap.size) hx hb hl0 hown (by decide +kernel) (by decide +kernel) (hts _ w_235) (hts _ w_8) (at0_all hts hthr) at0_ot hsZ.1 hsZ.2 hS (hl.1.trans hml.symm) dS_about_18 dS_about_21 dS_about_22 dS_about_25 (fun x h => (hexT x h).elim) (by decide) (by decide) (by decide) (by decide) hlocks (fun t _ hz9 hq9 => xX_of (⟨fun h9 => by have := h9.2.1; simp only [Int32.lt_iff_toInt_lt, Int32.le_iff_toInt_le, nI, Int32.reduceOfNat, Int32.reduceToInt] at c_9 this; omega, hC⟩) hP hz9 hq9) hS.2.2 (by decide) (by decide)
    · skip
      refine lv_iload_n hx hb dS_about_12 rfl (lv_at hl 2 rfl) ?_
      refine lv_bipush (v := nI 12) hx hb dS_about_13 (by decide) ?_
      refine lv_icmp_lt (tgt := 26) hx hb dS_about_15 (by decide) (fun c_15 => ?_) (fun c_15 => ?_)
      · skip
        have hp9 : pAbt A n q := ⟨hr_2.t c_5, by simp only [Int32.lt_iff_toInt_lt, Int32.le_iff_toInt_le, nI, Int32.reduceOfNat, Int32.reduceToInt] at c_9 ⊢; omega, c_15⟩
        obtain ⟨d, hd, rfl⟩ := rng_lt hp9.1.1 hp9.1.2 (by omega)
        obtain ⟨u, hu, rfl⟩ := rng_lt hp9.2.1 hp9.2.2 (by decide)
        refine lv_iload_n hx hb dS_about_26 rfl (lv_at hl 2 rfl) ?_
        rcases (show u = 0 ∨ u = 1 ∨ u = 2 ∨ 3 ≤ u by omega) with rfl | rfl | rfl | h3
        · skip
          refine lv_tableIn (off := 25) (tgt := 52) hx hb dS_about_27 (by decide) (by decide) rfl (by decide) ?_
          refine lv_aload_n hx hb dS_about_52 rfl (lv_at hl 0 rfl) ?_
          refine bw_get (own := RS) (ci := 1) (C := RS) (T := TS) (N := 14) (v := .ref (ad 1)) hx hb hts inS hown hE hP 0 (by decide) rfl rfl 1 (by decide) w_89 rfl rfl dS_about_53 ?_
          refine lv_iload_n hx hb dS_about_56 rfl (lv_at hl 1 rfl) ?_
          refine ln_iald (L := 48) (g := (M 1)) hx hb hE hP 1 0 (by decide) (rfl) rfl (by omega) (by decide) dS_about_57 ?_
          refine W.widen (k := 1) (n := 6) (by decide) (by decide) ?_
          exact vx_ret (W.iret (v := M 1 d) hx hb hr (fun t ht hW => ⟨⟨_, M, rfl, ⟨by rw [nI_clamp (by omega), nI_clamp (by omega)]; unfold abA; rw [if_pos rfl]; exact (hrow d hd).1, hp9, hC⟩, by show va_P _ _ _ t.heap; rw [ht]; exact hP⟩, hS.F ht⟩) hS.2.2 dS_about_58)
        · skip
          refine lv_tableIn (off := 32) (tgt := 59) hx hb dS_about_27 (by decide) (by decide) rfl (by decide) ?_
          refine lv_aload_n hx hb dS_about_59 rfl (lv_at hl 0 rfl) ?_
          refine bw_get (own := RS) (ci := 1) (C := RS) (T := TS) (N := 14) (v := .ref (ad 2)) hx hb hts inS hown hE hP 0 (by decide) rfl rfl 2 (by decide) w_90 rfl rfl dS_about_60 ?_
          refine lv_iload_n hx hb dS_about_63 rfl (lv_at hl 1 rfl) ?_
          refine ln_iald (L := 48) (g := (M 2)) hx hb hE hP 2 0 (by decide) (rfl) rfl (by omega) (by decide) dS_about_64 ?_
          refine W.widen (k := 1) (n := 6) (by decide) (by decide) ?_
          exact vx_ret (W.iret (v := M 2 d) hx hb hr (fun t ht hW => ⟨⟨_, M, rfl, ⟨by rw [nI_clamp (by omega), nI_clamp (by omega)]; unfold abA; rw [if_neg (by decide), if_pos rfl]; exact (hrow d hd).2.1, hp9, hC⟩, by show va_P _ _ _ t.heap; rw [ht]; exact hP⟩, hS.F ht⟩) hS.2.2 dS_about_65)
        · skip
          refine lv_tableIn (off := 39) (tgt := 66) hx hb dS_about_27 (by decide) (by decide) rfl (by decide) ?_
          refine lv_aload_n hx hb dS_about_66 rfl (lv_at hl 0 rfl) ?_
          refine bw_get (own := RS) (ci := 1) (C := RS) (T := TS) (N := 14) (v := .ref (ad 3)) hx hb hts inS hown hE hP 0 (by decide) rfl rfl 3 (by decide) w_91 rfl rfl dS_about_67 ?_
          refine lv_iload_n hx hb dS_about_70 rfl (lv_at hl 1 rfl) ?_
          refine ln_zald (L := 48) (g := (M 3)) hx hb hE hP 3 1 (by decide) (rfl) rfl (by omega) (by decide) dS_about_71 ?_
          refine lv_if_eq (tgt := 79) hx hb dS_about_72 (by decide) (fun c_72 => ?_) (fun c_72 => ?_)
          · skip
            refine lv_iconst (v := nI 0) hx hb dS_about_79 (by decide) ?_
            refine W.widen (k := 1) (n := 6) (by decide) (by decide) ?_
            exact vx_ret (W.iret (v := nI 0) hx hb hr (fun t ht hW => ⟨⟨_, M, rfl, ⟨by rw [nI_clamp (by omega), nI_clamp (by omega)]; unfold abA; rw [if_neg (by decide), if_neg (by decide), if_pos rfl, ← (hrow d hd).2.2.1]; rw [if_pos c_72], hp9, hC⟩, by show va_P _ _ _ t.heap; rw [ht]; exact hP⟩, hS.F ht⟩) hS.2.2 dS_about_80)
          · skip
            refine lv_iconst (v := nI 1) hx hb dS_about_75 (by decide) ?_
            refine lv_goto (tgt := 80) hx hb dS_about_76 (by decide) ?_
            refine W.widen (k := 1) (n := 6) (by decide) (by decide) ?_
            exact vx_ret (W.iret (v := nI 1) hx hb hr (fun t ht hW => ⟨⟨_, M, rfl, ⟨by rw [nI_clamp (by omega), nI_clamp (by omega)]; unfold abA; rw [if_neg (by decide), if_neg (by decide), if_pos rfl, ← (hrow d hd).2.2.1]; rw [if_neg c_72], hp9, hC⟩, by show va_P _ _ _ t.heap; rw [ht]; exact hP⟩, hS.F ht⟩) hS.2.2 dS_about_80)
        · skip
          refine lv_tableOut (tgt := 81) hx hb dS_about_27 (Or.inr (by rw [nI_toInt (by omega)]; omega)) (by decide) ?_
          refine lv_aload_n hx hb dS_about_81 rfl (lv_at hl 0 rfl) ?_
          refine bw_get (own := RS) (ci := 1) (C := RS) (T := TS) (N := 14) (v := .ref (ad 4)) hx hb hts inS hown hE hP 0 (by decide) rfl rfl 4 (by decide) w_92 rfl rfl dS_about_82 ?_
          refine lv_iload_n hx hb dS_about_85 rfl (lv_at hl 1 rfl) ?_
          refine ln_aald (L := 48) hx hb hE hP 4 2 (by decide) (rfl) rfl (by omega) (by decide) (a := ad (5 + d)) (by first | rfl | (show (if _ then _ else _) = _; rw [if_pos (by omega)])) dS_about_86 ?_
          refine lv_iload_n hx hb dS_about_87 rfl (lv_at hl 2 rfl) ?_
          refine lv_iconst (v := nI 3) hx hb dS_about_88 (by decide) ?_
          refine ln_isub hx hb dS_about_89 (h3) ?_
          refine ln_iald (L := 9) (g := (M (5 + d))) hx hb hE hP (5 + d) 0 (by omega) (sc_row5 (by omega)) rfl (by omega) (by decide) dS_about_90 ?_
          refine W.widen (k := 1) (n := 6) (by decide) (by decide) ?_
          exact vx_ret (W.iret (v := M (5 + d) (u - 3)) hx hb hr (fun t ht hW => ⟨⟨_, M, rfl, ⟨by rw [nI_clamp (by omega), nI_clamp (by omega)]; unfold abA; rw [if_neg (by omega), if_neg (by omega), if_neg (by omega)]; exact (hrow d hd).2.2.2.1 (u - 3) (by omega), hp9, hC⟩, by show va_P _ _ _ t.heap; rw [ht]; exact hP⟩, hS.F ht⟩) hS.2.2 dS_about_91)
      · skip
        exact vx_throw0 (own := RS) (cls := nse) (names := nseUp) (ik := 93) (ic := 95) (A := bw_A ad 162 s.heap.size) hx hb hl0 hown (by decide +kernel) (by decide +kernel) (hts _ w_235) (hts _ w_8) (at0_all hts hthr) at0_ot hsZ.1 hsZ.2 hS (hl.1.trans hml.symm) dS_about_18 dS_about_21 dS_about_22 dS_about_25 (fun x h => (hexT x h).elim) (by decide) (by decide) (by decide) (by decide) hlocks (fun t _ hz9 hq9 => xX_of (⟨fun h9 => c_15 h9.2.2, hC⟩) hP hz9 hq9) hS.2.2 (by decide) (by decide)
end
section
/-! THE REFERENCE holds the abstract state -/
def Ref (A : Ab) (R : Nat → mRow) : Prop := (R 0).1 1 = nI (aN A) ∧ (∀ n, n < aN A → (R 1).1 n = aP A n ∧ (R 2).1 n = aK A n ∧ (R 3).1 n = aH A n ∧ ∀ j, j < 9 → (R 4).1 (9 * n + j) = aU A n j) ∧ ∀ j, j < 9 → (R 4).1 (432 + j) = aE A j
theorem m_us {f : Nat → Int32} {g : Nat → Int64} {k : Nat} {x : Int32} : ((upd f k x, g) : mRow).1 k = x := pk_us
theorem m_un {f : Nat → Int32} {g : Nat → Int64} {k j : Nat} {x : Int32} (h : j ≠ k) : ((upd f k x, g) : mRow).1 j = f j := pk_un h
theorem Ref.keep {A : Ab} {R R1 : Nat → mRow} (h : Ref A R) (h1 : ∀ q, 0 < q → q < 5 → (R1 q).1 = (R q).1) (h0 : (R1 0).1 1 = (R 0).1 1) : Ref A R1 := by
  refine ⟨by rw [h0]; exact h.1, fun n hn => ?_, fun j hj => by rw [h1 4 (by decide) (by decide)]; exact h.2.2 j hj⟩
  rw [h1 1 (by decide) (by decide), h1 2 (by decide) (by decide), h1 3 (by decide) (by decide), h1 4 (by decide) (by decide)]
  exact h.2.1 n hn
/-- the reference's first act: thrown is x -/
theorem Ref.thr {A : Ab} {R R1 : Nat → mRow} {x : Int32} (h : Ref A R) (e : R1 = va_up R 0 (upd (R 0).1 0 x, (R 0).2)) : Ref A R1 :=
  h.keep (fun q h1 _ => by rw [e, va_up_ne _ _ (by omega)]) (by rw [e, va_up_self]; exact m_un (by decide))
theorem Ref.clr {A : Ab} {R R1 : Nat → mRow} (h : Ref A R) (e : R1 = va_up R 0 (upd (R 0).1 1 (nI 0), (R 0).2)) : Ref (clrA A) R1 := by
  refine ⟨by rw [e, va_up_self]; exact m_us, fun n hn => absurd hn (Nat.not_lt_zero _), fun j hj => ?_⟩
  rw [e, va_up_ne _ _ (by decide)]
  exact h.2.2 j hj
def lay3 (r : mRow) (a : Nat) (x y z : Int32) : mRow := (upd (upd (upd r.1 a x) (a + 1) y) (a + 2) z, r.2)
theorem lay3_in {r : mRow} {a w : Nat} {x y z : Int32} {u : Nat → Int32} (hw : w < 3) (hu : ∀ j, j < 9 → r.1 (a + j) = u j) {j : Nat} (hj : j < 9) : (lay3 r (a + 3 * w) x y z).1 (a + j) = jput u w x y z j := by
  unfold lay3 jput upd
  by_cases c1 : j = 3 * w + 2
  · subst c1; simp [show a + (3 * w + 2) = a + 3 * w + 2 by omega]
  · by_cases c2 : j = 3 * w + 1
    · subst c2; simp [show a + (3 * w + 1) = a + 3 * w + 1 by omega]
    · by_cases c3 : j = 3 * w
      · subst c3; simp
      · simp [c1, c2, c3, show ¬ a + j = a + 3 * w + 2 by omega, show ¬ a + j = a + 3 * w + 1 by omega, show ¬ a + j = a + 3 * w by omega, hu j hj]
theorem lay3_out {r : mRow} {a t : Nat} {x y z : Int32} (h : t < a ∨ a + 3 ≤ t) : (lay3 r a x y z).1 t = r.1 t := by
  unfold lay3 upd
  simp [show ¬ t = a + 2 by omega, show ¬ t = a + 1 by omega, show ¬ t = a by omega]
theorem Ref.set {A : Ab} {R R1 : Nat → mRow} {j w : Nat} {x y z : Int32} (h : Ref A R) (hA : aOk A) (hj : j < aN A) (hw : w < 3) (e : R1 = va_up R 4 (lay3 (R 4) (9 * j + 3 * w) x y z)) : Ref (setA A j w x y z) R1 := by
  have hN := hA.1
  have f : ∀ q, q ≠ 4 → R1 q = R q := fun q hq => by rw [e, va_up_ne _ _ hq]
  have f4 : R1 4 = lay3 (R 4) (9 * j + 3 * w) x y z := by rw [e, va_up_self]
  refine ⟨by rw [f 0 (by decide)]; exact h.1, fun n hn => ?_, fun i hi => by rw [f4, lay3_out (by omega)]; exact h.2.2 i hi⟩
  have hn' : n < aN A := hn
  obtain ⟨b1, b2, b3, b4⟩ := h.2.1 n hn'
  refine ⟨by rw [f 1 (by decide)]; exact b1, by rw [f 2 (by decide)]; exact b2, by rw [f 3 (by decide)]; exact b3, fun i hi => ?_⟩
  show (R1 4).1 (9 * n + i) = va_up (aU A) j _ n i
  rw [f4]
  by_cases c : n = j
  · subst c
    rw [va_up_self]
    exact lay3_in hw b4 hi
  · rw [va_up_ne _ _ c, lay3_out (by omega)]
    exact b4 i hi
theorem Ref.cam {A : Ab} {R R1 : Nat → mRow} {w : Nat} {x y z : Int32} (h : Ref A R) (hA : aOk A) (hw : w < 3) (e : R1 = va_up R 4 (lay3 (R 4) (432 + 3 * w) x y z)) : Ref (camA A w x y z) R1 := by
  have hN := hA.1
  have f : ∀ q, q ≠ 4 → R1 q = R q := fun q hq => by rw [e, va_up_ne _ _ hq]
  have f4 : R1 4 = lay3 (R 4) (432 + 3 * w) x y z := by rw [e, va_up_self]
  refine ⟨by rw [f 0 (by decide)]; exact h.1, fun n hn => ?_, fun i hi => by rw [f4]; exact lay3_in hw h.2.2 hi⟩
  have hn' : n < aN A := hn
  obtain ⟨b1, b2, b3, b4⟩ := h.2.1 n hn'
  exact ⟨by rw [f 1 (by decide)]; exact b1, by rw [f 2 (by decide)]; exact b2, by rw [f 3 (by decide)]; exact b3, fun i hi => by rw [f4, lay3_out (by omega)]; exact b4 i hi⟩
theorem Ref.hang {A : Ab} {R R1 : Nat → mRow} {j : Nat} {p : Int32} (h : Ref A R) (e : R1 = va_up R 1 (upd (R 1).1 j p, (R 1).2)) : Ref (hangA A j p) R1 := by
  have f : ∀ q, q ≠ 1 → R1 q = R q := fun q hq => by rw [e, va_up_ne _ _ hq]
  refine ⟨by rw [f 0 (by decide)]; exact h.1, fun n hn => ?_, fun i hi => by rw [f 4 (by decide)]; exact h.2.2 i hi⟩
  obtain ⟨b1, b2, b3, b4⟩ := h.2.1 n hn
  refine ⟨?_, by rw [f 2 (by decide)]; exact b2, by rw [f 3 (by decide)]; exact b3, fun i hi => by rw [f 4 (by decide)]; exact b4 i hi⟩
  show (R1 1).1 n = va_up (aP A) j p n
  rw [e, va_up_self]
  show upd (R 1).1 j p n = _
  by_cases c : n = j
  · subst c; rw [va_up_self, pk_us]
  · rw [va_up_ne _ _ c, pk_un c]; exact b1
theorem Ref.hide {A : Ab} {R R1 : Nat → mRow} {j : Nat} {b : Int32} (h : Ref A R) (e : R1 = va_up R 3 (upd (R 3).1 j (vp_nar .boolean b), (R 3).2)) : Ref (hideA A j b) R1 := by
  have f : ∀ q, q ≠ 3 → R1 q = R q := fun q hq => by rw [e, va_up_ne _ _ hq]
  refine ⟨by rw [f 0 (by decide)]; exact h.1, fun n hn => ?_, fun i hi => by rw [f 4 (by decide)]; exact h.2.2 i hi⟩
  obtain ⟨b1, b2, b3, b4⟩ := h.2.1 n hn
  refine ⟨by rw [f 1 (by decide)]; exact b1, by rw [f 2 (by decide)]; exact b2, ?_, fun i hi => by rw [f 4 (by decide)]; exact b4 i hi⟩
  show (R1 3).1 n = va_up (aH A) j _ n
  rw [e, va_up_self]
  show upd (R 3).1 j _ n = _
  by_cases c : n = j
  · subst c; rw [va_up_self, pk_us]
  · rw [va_up_ne _ _ c, pk_un c]; exact b3
/-- the nine numbers of a new node, i of them laid -/
def nInv (R R1 : Nat → mRow) (N i : Nat) : Prop := (∀ q, q ≠ 4 → R1 q = R q) ∧ (∀ t, (t < 9 * N ∨ 9 * N + i ≤ t) → (R1 4).1 t = (R 4).1 t) ∧ ∀ j, j < i → (R1 4).1 (9 * N + j) = if j < 6 then 0 else 65536
theorem nInv.step {R R1 R2 : Nat → mRow} {N i : Nat} {x : Int32} (h : nInv R R1 N i) (e : R2 = va_up R1 4 (upd (R1 4).1 (9 * N + i) x, (R1 4).2)) (hx : x = if i < 6 then 0 else 65536) : nInv R R2 N (i + 1) := by
  subst e
  refine ⟨fun q hq => by rw [va_up_ne _ _ hq]; exact h.1 q hq, fun t ht => ?_, fun j hj => ?_⟩
  · rw [va_up_self]
    show upd (R1 4).1 (9 * N + i) x t = _
    rw [pk_un (by omega)]; exact h.2.1 t (by omega)
  · rw [va_up_self]
    show upd (R1 4).1 (9 * N + i) x (9 * N + j) = _
    by_cases c : j = i
    · subst c; rw [pk_us, hx]
    · rw [pk_un (by omega)]; exact h.2.2 j (by omega)
theorem Ref.add {A : Ab} {R R2 R3 R4 R5 R6 : Nat → mRow} {p k : Int32} (h : Ref A R) (hN : aN A < 48) (e2 : R2 = va_up R 1 (upd (R 1).1 (aN A) p, (R 1).2)) (e3 : R3 = va_up R2 2 (upd (R2 2).1 (aN A) k, (R2 2).2)) (e4 : R4 = va_up R3 3 (upd (R3 3).1 (aN A) (vp_nar .boolean (nI 0)), (R3 3).2)) (h5 : nInv R4 R5 (aN A) 9) (e6 : R6 = va_up R5 0 (upd (R5 0).1 1 (nI (aN A + 1)), (R5 0).2)) : Ref (addA A p k) R6 := by
  have f1 : (R6 1).1 = upd (R 1).1 (aN A) p := by rw [e6, va_up_ne _ _ (by decide), h5.1 1 (by decide), e4, va_up_ne _ _ (by decide), e3, va_up_ne _ _ (by decide), e2, va_up_self]
  have f2 : (R6 2).1 = upd (R 2).1 (aN A) k := by rw [e6, va_up_ne _ _ (by decide), h5.1 2 (by decide), e4, va_up_ne _ _ (by decide), e3, va_up_self, e2, va_up_ne _ _ (by decide)]
  have f3 : (R6 3).1 = upd (R 3).1 (aN A) (vp_nar .boolean (nI 0)) := by rw [e6, va_up_ne _ _ (by decide), h5.1 3 (by decide), e4, va_up_self, e3, va_up_ne _ _ (by decide), e2, va_up_ne _ _ (by decide)]
  have g4 : R4 4 = R 4 := by rw [e4, va_up_ne _ _ (by decide), e3, va_up_ne _ _ (by decide), e2, va_up_ne _ _ (by decide)]
  have f4 : R6 4 = R5 4 := by rw [e6, va_up_ne _ _ (by decide)]
  refine ⟨by rw [e6, va_up_self]; exact m_us, fun n hn => ?_, fun i hi => by rw [f4, h5.2.1 (432 + i) (by omega), g4]; exact h.2.2 i hi⟩
  have hn' : n < aN A + 1 := hn
  show (R6 1).1 n = va_up (aP A) (aN A) p n ∧ (R6 2).1 n = va_up (aK A) (aN A) k n ∧ (R6 3).1 n = va_up (aH A) (aN A) 0 n ∧ ∀ j, j < 9 → (R6 4).1 (9 * n + j) = va_up (aU A) (aN A) (fun j => if j < 6 then 0 else 65536) n j
  rw [f1, f2, f3, f4]
  by_cases c : n = aN A
  · rw [c]
    simp only [va_up_self, pk_us]
    exact ⟨trivial, trivial, by decide, fun j hj => h5.2.2 j hj⟩
  · obtain ⟨b1, b2, b3, b4⟩ := h.2.1 n (by omega)
    rw [va_up_ne _ _ c, va_up_ne _ _ c, va_up_ne _ _ c, va_up_ne _ _ c, pk_un c, pk_un c, pk_un c]
    exact ⟨b1, b2, b3, fun j hj => by rw [h5.2.1 (9 * n + j) (by omega), g4]; exact b4 j hj⟩

set_option maxHeartbeats 4000000 in
set_option maxRecDepth 100000 in
theorem kM_thrown (l : Launch) (D : va_G) (cs : Nat → ClassId) (ad : Nat → Nat) (hI : bw_I ad 13) (M : Nat → mRow) (sz : Nat)  : Met l yM_thrown (wc yM_thrown cM_thrown 1 (some .int)) ({ frames := 0, cells := 0, slots := 0, locals := 0 } : Room) (va_Pc [.ref (ad 0)] (mP D cs ad M sz)) (vp_Si (fun r => r = (M 0).1 0)) 0 0 (fun _ => False) := by
  refine Met.ofW (cc := cM_thrown) (maxL := 1) (ret := (some .int)) (by decide +kernel) rfl ?_
  intro p e s m args below meth c s₁ B hml hv
  obtain ⟨rfl, hsz, hP, hE⟩ := hv
  subst hsz
  have hx := B.exec
  have hb := B.bytes
  have hr := B.returns
  have hts : ∀ w9 ∈ ws_all, w9.before ([.ref (ad 0)] : List Value).toArray s = true := fun w9 h => atoms_spec (ws := (wc yM_thrown cM_thrown 1 (some .int))) B.pre w9 (List.mem_cons_of_mem _ h)
  have hown : s.vm.findClass RM = some m.cls := findClass_of_methodNamed B.named
  have hlocks := B.notSynchronized
  have hl := lv_entry ([.ref (ad 0)]) (n := 1) (Nat.le_of_ble_eq_true rfl)
  rw [lg_entry_eq]
  generalize (lg_sl ([.ref (ad 0)]) ++ List.replicate (1 - (lg_sl ([.ref (ad 0)])).length) Slot.unset).toArray = ls at hl ⊢
  have hl : lv_has ls 1 [(0, .ref (ad 0))] := hl
  refine lv_aload_n hx hb dM_thrown_0 rfl (lv_at hl 0 rfl) ?_
  refine bw_get (own := RM) (ci := 2) (C := RM) (T := TM) (N := 14) (v := .int ((M 0).1 0)) hx hb hts inM hown hE hP 0 (by decide) rfl rfl 0 (by decide) w_316 rfl rfl dM_thrown_1 ?_
  exact W.iret (v := (M 0).1 0) hx hb hr (fun t ht hW => ⟨_, rfl, rfl, ht⟩) (fun _ h => nomatch h) dM_thrown_4

set_option maxHeartbeats 4000000 in
set_option maxRecDepth 100000 in
theorem kM_count (l : Launch) (D : va_G) (cs : Nat → ClassId) (ad : Nat → Nat) (hI : bw_I ad 13) (M : Nat → mRow) (sz : Nat) (A : Ab) (hA : aOk A) (hC : Ref A M)  : Met l yM_count (wc yM_count cM_count 1 (some .int)) ({ frames := 0, cells := 0, slots := 0, locals := 0 } : Room) (va_Pc [.ref (ad 0)] (mP D cs ad M sz)) (bQi D ad 13 (mc_cell cs ad) sz (fun r M1 => r = nI (aN A) ∧ Ref A M1)) 0 0 (bw_A ad 13 sz) := by
  refine Met.ofW (cc := cM_count) (maxL := 1) (ret := (some .int)) (by decide +kernel) rfl ?_
  intro p e s m args below meth c s₁ B hml hv
  obtain ⟨rfl, hsz, hP, hE⟩ := hv
  subst hsz
  have hx := B.exec
  have hb := B.bytes
  have hr := B.returns
  have hts : ∀ w9 ∈ ws_all, w9.before ([.ref (ad 0)] : List Value).toArray s = true := fun w9 h => atoms_spec (ws := (wc yM_count cM_count 1 (some .int))) B.pre w9 (List.mem_cons_of_mem _ h)
  have hown : s.vm.findClass RM = some m.cls := findClass_of_methodNamed B.named
  have hlocks := B.notSynchronized
  have hS : va_S (bw_A ad 13 s.heap.size) s.heap s.heap [] := va_S.rf
  have hl := lv_entry ([.ref (ad 0)]) (n := 1) (Nat.le_of_ble_eq_true rfl)
  rw [lg_entry_eq]
  generalize (lg_sl ([.ref (ad 0)]) ++ List.replicate (1 - (lg_sl ([.ref (ad 0)])).length) Slot.unset).toArray = ls at hl ⊢
  have hl : lv_has ls 1 [(0, .ref (ad 0))] := hl
  have hN : aN A ≤ 48 := hA.1
  obtain ⟨hn, hrow, heye⟩ := id hC
  refine lv_aload_n hx hb dM_count_0 rfl (lv_at hl 0 rfl) ?_
  refine lv_iconst (v := nI 0) hx hb dM_count_1 (by decide) ?_
  refine bw_put (own := RM) (ci := 2) (C := RM) (T := TM) (N := 14) (v := .int (nI 0)) (ty := .int) hx hb hts inM tyM tyM_ok nmM hown hE hI hP hS 0 (by decide) rfl rfl 0 (by decide) w_316 rfl rfl ((upd (M 0).1 0 (nI 0), (M 0).2)) rfl (by decide +kernel) rfl rfl (Nat.le_of_ble_eq_true rfl) dM_count_2 (fun M_1 H locs eM_1 hP hS => ?_)
  refine lv_aload_n hx hb dM_count_5 rfl (lv_at hl 0 rfl) ?_
  refine bw_get (own := RM) (ci := 2) (C := RM) (T := TM) (N := 14) (v := .int ((M_1 0).1 1)) hx hb hts inM hown hE hP 0 (by decide) rfl rfl 1 (by decide) w_317 rfl rfl dM_count_6 ?_
  refine ln_asi (nI (aN A)) (by rw [eM_1, va_up_self]; exact (m_un (by decide)).trans hn) ?_
  exact W.iret (v := nI (aN A)) hx hb hr (fun t ht hW => ⟨⟨_, M_1, rfl, ⟨rfl, hC.thr eM_1⟩, by show va_P _ _ _ t.heap; rw [ht]; exact hP⟩, hS.F ht⟩) hS.2.2 dM_count_9

set_option maxHeartbeats 4000000 in
set_option maxRecDepth 100000 in
theorem kM_clear (l : Launch) (D : va_G) (cs : Nat → ClassId) (ad : Nat → Nat) (hI : bw_I ad 13) (M : Nat → mRow) (sz : Nat) (A : Ab) (hA : aOk A) (hC : Ref A M)  : Met l yM_clear (wc yM_clear cM_clear 1 none) ({ frames := 0, cells := 0, slots := 0, locals := 0 } : Room) (va_Pc [.ref (ad 0)] (mP D cs ad M sz)) (bQv D ad 13 (mc_cell cs ad) sz (fun M1 => Ref (clrA A) M1)) 0 0 (bw_A ad 13 sz) := by
  refine Met.ofW (cc := cM_clear) (maxL := 1) (ret := none) (by decide +kernel) rfl ?_
  intro p e s m args below meth c s₁ B hml hv
  obtain ⟨rfl, hsz, hP, hE⟩ := hv
  subst hsz
  have hx := B.exec
  have hb := B.bytes
  have hr := B.returns
  have hts : ∀ w9 ∈ ws_all, w9.before ([.ref (ad 0)] : List Value).toArray s = true := fun w9 h => atoms_spec (ws := (wc yM_clear cM_clear 1 none)) B.pre w9 (List.mem_cons_of_mem _ h)
  have hown : s.vm.findClass RM = some m.cls := findClass_of_methodNamed B.named
  have hlocks := B.notSynchronized
  have hS : va_S (bw_A ad 13 s.heap.size) s.heap s.heap [] := va_S.rf
  have hl := lv_entry ([.ref (ad 0)]) (n := 1) (Nat.le_of_ble_eq_true rfl)
  rw [lg_entry_eq]
  generalize (lg_sl ([.ref (ad 0)]) ++ List.replicate (1 - (lg_sl ([.ref (ad 0)])).length) Slot.unset).toArray = ls at hl ⊢
  have hl : lv_has ls 1 [(0, .ref (ad 0))] := hl
  refine lv_aload_n hx hb dM_clear_0 rfl (lv_at hl 0 rfl) ?_
  refine lv_iconst (v := nI 0) hx hb dM_clear_1 (by decide) ?_
  refine bw_put (own := RM) (ci := 2) (C := RM) (T := TM) (N := 14) (v := .int (nI 0)) (ty := .int) hx hb hts inM tyM tyM_ok nmM hown hE hI hP hS 0 (by decide) rfl rfl 0 (by decide) w_316 rfl rfl ((upd (M 0).1 0 (nI 0), (M 0).2)) rfl (by decide +kernel) rfl rfl (Nat.le_of_ble_eq_true rfl) dM_clear_2 (fun M_1 H locs eM_1 hP hS => ?_)
  refine lv_aload_n hx hb dM_clear_5 rfl (lv_at hl 0 rfl) ?_
  refine lv_iconst (v := nI 0) hx hb dM_clear_6 (by decide) ?_
  refine bw_put (own := RM) (ci := 2) (C := RM) (T := TM) (N := 14) (v := .int (nI 0)) (ty := .int) hx hb hts inM tyM tyM_ok nmM hown hE hI hP hS 0 (by decide) rfl rfl 1 (by decide) w_317 rfl rfl ((upd (M_1 0).1 1 (nI 0), (M_1 0).2)) rfl (by decide +kernel) rfl rfl (Nat.le_of_ble_eq_true rfl) dM_clear_7 (fun M_2 H locs eM_2 hP hS => ?_)
  exact W.vret hx hb hr (fun t ht hW => ⟨⟨M_2, rfl, (hC.thr eM_1).clr eM_2, by show va_P _ _ _ t.heap; rw [ht]; exact hP⟩, hS.F ht⟩) hS.2.2 dM_clear_10

set_option maxHeartbeats 4000000 in
set_option maxRecDepth 100000 in
theorem kM_can (l : Launch) (q v : Int32) : Met l yM_can (wc yM_can cM_can 3 (some .boolean)) ({ frames := 0, cells := 0, slots := 0, locals := 0 } : Room) (va_Pc [.int q, .int v] (fun _ => True)) (vp_Si (jb (jcan (jw q) v))) 0 0 (fun _ => False) := by
  refine Met.ofW (cc := cM_can) (maxL := 3) (ret := (some .boolean)) (by decide +kernel) rfl ?_
  intro p e s m args below meth c s₁ B hml hv
  obtain ⟨rfl, -⟩ := hv
  have hx := B.exec
  have hb := B.bytes
  have hr := B.returns
  have hts : ∀ w9 ∈ ws_all, w9.before ([.int q, .int v] : List Value).toArray s = true := fun w9 h => atoms_spec (ws := (wc yM_can cM_can 3 (some .boolean))) B.pre w9 (List.mem_cons_of_mem _ h)
  have hown : s.vm.findClass RM = some m.cls := findClass_of_methodNamed B.named
  have hlocks := B.notSynchronized
  have hl := lv_entry ([.int q, .int v]) (n := 3) (Nat.le_of_ble_eq_true rfl)
  rw [lg_entry_eq]
  generalize (lg_sl ([.int q, .int v]) ++ List.replicate (3 - (lg_sl ([.int q, .int v])).length) Slot.unset).toArray = ls at hl ⊢
  have hl : lv_has ls 3 [(0, .int q), (1, .int v)] := hl
  refine lv_iload_n hx hb dM_can_0 rfl (lv_at hl 0 rfl) ?_
  refine lv_if_ne (tgt := 9) hx hb dM_can_1 (by decide) (fun c_1 => ?_) (fun c_1 => ?_)
  · skip
    refine lv_ldc (own := RM) (index := 57) (v := 1048576) hx hb hown (hts _ w_389) dM_can_9 ?_
    refine ln_asi (jw q) (by unfold jw; rw [if_neg c_1]) ?_
    refine lv_istore_n (lv' := [(2, .int (jw q)), (0, .int q), (1, .int v)]) hx hb dM_can_11 rfl hl (by decide) rfl (fun ls hl => ?_)
    refine lv_iload_n hx hb dM_can_12 rfl (lv_at hl 2 rfl) ?_
    refine lv_iload_n hx hb dM_can_13 rfl (lv_at hl 0 rfl) ?_
    refine lv_ineg hx hb dM_can_14 ?_
    refine lv_icmp_lt (tgt := 27) hx hb dM_can_15 (by decide) (fun c_15 => ?_) (fun c_15 => ?_)
    · skip
      refine lv_iconst (v := nI 0) hx hb dM_can_27 (by decide) ?_
      exact W.zret (v := nI 0) (ty := .boolean) hx hb hr (by decide) (fun t ht hW => ⟨_, rfl, jb.zero (fun h9 => by simp only [jcan, Int32.lt_iff_toInt_lt, Int32.le_iff_toInt_le, nI, Int32.reduceOfNat, Int32.reduceToInt] at h9 c_15; omega), ht⟩) (fun _ h => nomatch h) dM_can_28
    · skip
      refine lv_iload_n hx hb dM_can_18 rfl (lv_at hl 2 rfl) ?_
      refine lv_iload_n hx hb dM_can_19 rfl (lv_at hl 0 rfl) ?_
      refine lv_icmp_gt (tgt := 27) hx hb dM_can_20 (by decide) (fun c_20 => ?_) (fun c_20 => ?_)
      · skip
        refine lv_iconst (v := nI 0) hx hb dM_can_27 (by decide) ?_
        exact W.zret (v := nI 0) (ty := .boolean) hx hb hr (by decide) (fun t ht hW => ⟨_, rfl, jb.zero (fun h9 => by simp only [jcan, Int32.lt_iff_toInt_lt, Int32.le_iff_toInt_le, nI, Int32.reduceOfNat, Int32.reduceToInt] at h9 c_15 c_20; omega), ht⟩) (fun _ h => nomatch h) dM_can_28
      · skip
        refine lv_iconst (v := nI 1) hx hb dM_can_23 (by decide) ?_
        refine lv_goto (tgt := 28) hx hb dM_can_24 (by decide) ?_
        exact W.zret (v := nI 1) (ty := .boolean) hx hb hr (by decide) (fun t ht hW => ⟨_, rfl, jb.one (by simp only [jcan, Int32.lt_iff_toInt_lt, Int32.le_iff_toInt_le, nI, Int32.reduceOfNat, Int32.reduceToInt] at c_15 c_20 ⊢; omega), ht⟩) (fun _ h => nomatch h) dM_can_28
  · skip
    refine lv_ldc (own := RM) (index := 56) (v := 4194304) hx hb hown (hts _ w_388) dM_can_4 ?_
    refine lv_goto (tgt := 11) hx hb dM_can_6 (by decide) ?_
    refine ln_asi (jw q) (by unfold jw; rw [if_pos c_1]) ?_
    refine lv_istore_n (lv' := [(2, .int (jw q)), (0, .int q), (1, .int v)]) hx hb dM_can_11 rfl hl (by decide) rfl (fun ls hl => ?_)
    refine lv_iload_n hx hb dM_can_12 rfl (lv_at hl 2 rfl) ?_
    refine lv_iload_n hx hb dM_can_13 rfl (lv_at hl 0 rfl) ?_
    refine lv_ineg hx hb dM_can_14 ?_
    refine lv_icmp_lt (tgt := 27) hx hb dM_can_15 (by decide) (fun c_15 => ?_) (fun c_15 => ?_)
    · skip
      refine lv_iconst (v := nI 0) hx hb dM_can_27 (by decide) ?_
      exact W.zret (v := nI 0) (ty := .boolean) hx hb hr (by decide) (fun t ht hW => ⟨_, rfl, jb.zero (fun h9 => by simp only [jcan, Int32.lt_iff_toInt_lt, Int32.le_iff_toInt_le, nI, Int32.reduceOfNat, Int32.reduceToInt] at h9 c_15; omega), ht⟩) (fun _ h => nomatch h) dM_can_28
    · skip
      refine lv_iload_n hx hb dM_can_18 rfl (lv_at hl 2 rfl) ?_
      refine lv_iload_n hx hb dM_can_19 rfl (lv_at hl 0 rfl) ?_
      refine lv_icmp_gt (tgt := 27) hx hb dM_can_20 (by decide) (fun c_20 => ?_) (fun c_20 => ?_)
      · skip
        refine lv_iconst (v := nI 0) hx hb dM_can_27 (by decide) ?_
        exact W.zret (v := nI 0) (ty := .boolean) hx hb hr (by decide) (fun t ht hW => ⟨_, rfl, jb.zero (fun h9 => by simp only [jcan, Int32.lt_iff_toInt_lt, Int32.le_iff_toInt_le, nI, Int32.reduceOfNat, Int32.reduceToInt] at h9 c_15 c_20; omega), ht⟩) (fun _ h => nomatch h) dM_can_28
      · skip
        refine lv_iconst (v := nI 1) hx hb dM_can_23 (by decide) ?_
        refine lv_goto (tgt := 28) hx hb dM_can_24 (by decide) ?_
        exact W.zret (v := nI 1) (ty := .boolean) hx hb hr (by decide) (fun t ht hW => ⟨_, rfl, jb.one (by simp only [jcan, Int32.lt_iff_toInt_lt, Int32.le_iff_toInt_le, nI, Int32.reduceOfNat, Int32.reduceToInt] at c_15 c_20 ⊢; omega), ht⟩) (fun _ h => nomatch h) dM_can_28

set_option maxHeartbeats 4000000 in
set_option maxRecDepth 100000 in
theorem kM_lays (l : Launch) (D : va_G) (cs : Nat → ClassId) (ad : Nat → Nat) (hI : bw_I ad 13) (M : Nat → mRow) (sz : Nat) (a : Nat) (ha : a + 3 ≤ 441) (q x y z : Int32)  : Met l yM_lays (wc yM_lays cM_lays 6 (some .boolean)) ({ frames := 1, cells := 0, slots := 0, locals := 22 } : Room) (va_Pc [.ref (ad 0), .int (nI a), .int q, .int x, .int y, .int z] (mP D cs ad M sz)) (bQi D ad 13 (mc_cell cs ad) sz (fun r M1 => (r = nI 1 ∧ (jcan (jw q) x ∧ jcan (jw q) y ∧ jcan (jw q) z) ∧ M1 = va_up M 4 (lay3 (M 4) a x y z)) ∨ (r = nI 0 ∧ ¬ (jcan (jw q) x ∧ jcan (jw q) y ∧ jcan (jw q) z) ∧ M1 = M))) 0 0 (bw_A ad 13 sz) := by
  refine Met.ofW (cc := cM_lays) (maxL := 6) (ret := (some .boolean)) (by decide +kernel) rfl ?_
  intro p e s m args below meth c s₁ B hml hv
  obtain ⟨rfl, hsz, hP, hE⟩ := hv
  subst hsz
  have hx := B.exec
  have hb := B.bytes
  have hr := B.returns
  have hts : ∀ w9 ∈ ws_all, w9.before ([.ref (ad 0), .int (nI a), .int q, .int x, .int y, .int z] : List Value).toArray s = true := fun w9 h => atoms_spec (ws := (wc yM_lays cM_lays 6 (some .boolean))) B.pre w9 (List.mem_cons_of_mem _ h)
  have hown : s.vm.findClass RM = some m.cls := findClass_of_methodNamed B.named
  have hlocks := B.notSynchronized
  have hS : va_S (bw_A ad 13 s.heap.size) s.heap s.heap [] := va_S.rf
  have hl := lv_entry ([.ref (ad 0), .int (nI a), .int q, .int x, .int y, .int z]) (n := 6) (Nat.le_of_ble_eq_true rfl)
  rw [lg_entry_eq]
  generalize (lg_sl ([.ref (ad 0), .int (nI a), .int q, .int x, .int y, .int z]) ++ List.replicate (6 - (lg_sl ([.ref (ad 0), .int (nI a), .int q, .int x, .int y, .int z])).length) Slot.unset).toArray = ls at hl ⊢
  have hl : lv_has ls 6 [(0, .ref (ad 0)), (1, .int (nI a)), (2, .int q), (3, .int x), (4, .int y), (5, .int z)] := hl
  refine lv_iload_n hx hb dM_lays_0 rfl (lv_at hl 2 rfl) ?_
  refine lv_iload_n hx hb dM_lays_1 rfl (lv_at hl 3 rfl) ?_
  refine vp_callSi (va_Run.run (bc_runS (own := RM) (As := [.int q, .int x]) (rest := []) hx hb (hml.trans hl.1.symm) hown hts (kM_can l q x) w_387 w_385 w_386 w_4 hd_M_can rfl ⟨rfl, rfl⟩ ⟨Nat.le_of_ble_eq_true rfl, Nat.le_of_ble_eq_true rfl⟩ (fun _ _ _ _ _ => trivial) (fun _ _ _ => trivial) rfl (Nat.le_of_ble_eq_true rfl) dM_lays_2 ⟨Nat.le_of_ble_eq_true rfl, Nat.le_of_ble_eq_true rfl⟩)) (fun r_2 hr_2 => ?_)
  refine lv_if_eq (tgt := 26) hx hb dM_lays_5 (by decide) (fun c_5 => ?_) (fun c_5 => ?_)
  · skip
    refine lv_iconst (v := nI 0) hx hb dM_lays_26 (by decide) ?_
    exact W.zret (v := nI 0) (ty := .boolean) hx hb hr (by decide) (fun t ht hW => ⟨⟨_, M, rfl, Or.inr ⟨rfl, fun h9 => hr_2.f c_5 h9.1, rfl⟩, by show va_P _ _ _ t.heap; rw [ht]; exact hP⟩, hS.F ht⟩) hS.2.2 dM_lays_27
  · skip
    refine lv_iload_n hx hb dM_lays_8 rfl (lv_at hl 2 rfl) ?_
    refine lv_iload hx hb dM_lays_9 (lv_at hl 4 rfl) ?_
    refine vp_callSi (va_Run.run (bc_runS (own := RM) (As := [.int q, .int y]) (rest := []) hx hb (hml.trans hl.1.symm) hown hts (kM_can l q y) w_387 w_385 w_386 w_4 hd_M_can rfl ⟨rfl, rfl⟩ ⟨Nat.le_of_ble_eq_true rfl, Nat.le_of_ble_eq_true rfl⟩ (fun _ _ _ _ _ => trivial) (fun _ _ _ => trivial) rfl (Nat.le_of_ble_eq_true rfl) dM_lays_11 ⟨Nat.le_of_ble_eq_true rfl, Nat.le_of_ble_eq_true rfl⟩)) (fun r_11 hr_11 => ?_)
    refine lv_if_eq (tgt := 26) hx hb dM_lays_14 (by decide) (fun c_14 => ?_) (fun c_14 => ?_)
    · skip
      refine lv_iconst (v := nI 0) hx hb dM_lays_26 (by decide) ?_
      exact W.zret (v := nI 0) (ty := .boolean) hx hb hr (by decide) (fun t ht hW => ⟨⟨_, M, rfl, Or.inr ⟨rfl, fun h9 => hr_11.f c_14 h9.2.1, rfl⟩, by show va_P _ _ _ t.heap; rw [ht]; exact hP⟩, hS.F ht⟩) hS.2.2 dM_lays_27
    · skip
      refine lv_iload_n hx hb dM_lays_17 rfl (lv_at hl 2 rfl) ?_
      refine lv_iload hx hb dM_lays_18 (lv_at hl 5 rfl) ?_
      refine vp_callSi (va_Run.run (bc_runS (own := RM) (As := [.int q, .int z]) (rest := []) hx hb (hml.trans hl.1.symm) hown hts (kM_can l q z) w_387 w_385 w_386 w_4 hd_M_can rfl ⟨rfl, rfl⟩ ⟨Nat.le_of_ble_eq_true rfl, Nat.le_of_ble_eq_true rfl⟩ (fun _ _ _ _ _ => trivial) (fun _ _ _ => trivial) rfl (Nat.le_of_ble_eq_true rfl) dM_lays_20 ⟨Nat.le_of_ble_eq_true rfl, Nat.le_of_ble_eq_true rfl⟩)) (fun r_20 hr_20 => ?_)
      refine lv_if_ne (tgt := 28) hx hb dM_lays_23 (by decide) (fun c_23 => ?_) (fun c_23 => ?_)
      · skip
        refine lv_aload_n hx hb dM_lays_28 rfl (lv_at hl 0 rfl) ?_
        refine bw_get (own := RM) (ci := 2) (C := RM) (T := TM) (N := 14) (v := .ref (ad 4)) hx hb hts inM hown hE hP 0 (by decide) rfl rfl 5 (by decide) w_321 rfl rfl dM_lays_29 ?_
        refine lv_iload_n hx hb dM_lays_32 rfl (lv_at hl 1 rfl) ?_
        refine lv_iload_n hx hb dM_lays_33 rfl (lv_at hl 3 rfl) ?_
        refine ln_iast (L := 441) hx hb hE hI hP hS 4 0 (by decide) (rfl) rfl (by omega) (by decide) ((upd (M 4).1 a x, (M 4).2)) (rfl) dM_lays_34 (fun M_1 H locs eM_1 hP hS => ?_)
        refine lv_aload_n hx hb dM_lays_35 rfl (lv_at hl 0 rfl) ?_
        refine bw_get (own := RM) (ci := 2) (C := RM) (T := TM) (N := 14) (v := .ref (ad 4)) hx hb hts inM hown hE hP 0 (by decide) rfl rfl 5 (by decide) w_321 rfl rfl dM_lays_36 ?_
        refine lv_iload_n hx hb dM_lays_39 rfl (lv_at hl 1 rfl) ?_
        refine lv_iconst (v := nI 1) hx hb dM_lays_40 (by decide) ?_
        refine ln_iadd hx hb dM_lays_41 ?_
        refine lv_iload hx hb dM_lays_42 (lv_at hl 4 rfl) ?_
        refine ln_iast (L := 441) hx hb hE hI hP hS 4 0 (by decide) (rfl) rfl (by omega) (by decide) ((upd (M_1 4).1 (a + 1) y, (M_1 4).2)) (rfl) dM_lays_44 (fun M_2 H locs eM_2 hP hS => ?_)
        refine lv_aload_n hx hb dM_lays_45 rfl (lv_at hl 0 rfl) ?_
        refine bw_get (own := RM) (ci := 2) (C := RM) (T := TM) (N := 14) (v := .ref (ad 4)) hx hb hts inM hown hE hP 0 (by decide) rfl rfl 5 (by decide) w_321 rfl rfl dM_lays_46 ?_
        refine lv_iload_n hx hb dM_lays_49 rfl (lv_at hl 1 rfl) ?_
        refine lv_iconst (v := nI 2) hx hb dM_lays_50 (by decide) ?_
        refine ln_iadd hx hb dM_lays_51 ?_
        refine lv_iload hx hb dM_lays_52 (lv_at hl 5 rfl) ?_
        refine ln_iast (L := 441) hx hb hE hI hP hS 4 0 (by decide) (rfl) rfl (by omega) (by decide) ((upd (M_2 4).1 (a + 2) z, (M_2 4).2)) (rfl) dM_lays_54 (fun M_3 H locs eM_3 hP hS => ?_)
        refine lv_iconst (v := nI 1) hx hb dM_lays_55 (by decide) ?_
        exact W.zret (v := nI 1) (ty := .boolean) hx hb hr (by decide) (fun t ht hW => ⟨⟨_, M_3, rfl, Or.inl ⟨rfl, ⟨hr_2.t c_5, hr_11.t c_14, hr_20.t c_23⟩, by rw [eM_3, eM_2, eM_1]; unfold lay3; simp only [va_up_self, bx_uu]⟩, by show va_P _ _ _ t.heap; rw [ht]; exact hP⟩, hS.F ht⟩) hS.2.2 dM_lays_56
      · skip
        refine lv_iconst (v := nI 0) hx hb dM_lays_26 (by decide) ?_
        exact W.zret (v := nI 0) (ty := .boolean) hx hb hr (by decide) (fun t ht hW => ⟨⟨_, M, rfl, Or.inr ⟨rfl, fun h9 => hr_20.f c_23 h9.2.2, rfl⟩, by show va_P _ _ _ t.heap; rw [ht]; exact hP⟩, hS.F ht⟩) hS.2.2 dM_lays_27

set_option maxHeartbeats 4000000 in
set_option maxRecDepth 100000 in
theorem kM_set (l : Launch) (D : va_G) (cs : Nat → ClassId) (ad : Nat → Nat) (hI : bw_I ad 13) (M : Nat → mRow) (sz : Nat) (A : Ab) (hA : aOk A) (hC : Ref A M) (n q x y z : Int32)  : Met l yM_set (wc yM_set cM_set 6 (some .boolean)) ({ frames := 2, cells := 0, slots := 0, locals := 47 } : Room) (va_Pc [.ref (ad 0), .int n, .int q, .int x, .int y, .int z] (mP D cs ad M sz)) (bQi D ad 13 (mc_cell cs ad) sz (fun r M1 => (r = nI 1 ∧ pSet A n q x y z ∧ Ref (setA A n.toNatClampNeg q.toNatClampNeg x y z) M1) ∨ (r = nI 0 ∧ ¬ pSet A n q x y z ∧ Ref A M1))) 0 0 (bw_A ad 13 sz) := by
  refine Met.ofW (cc := cM_set) (maxL := 6) (ret := (some .boolean)) (by decide +kernel) rfl ?_
  intro p e s m args below meth c s₁ B hml hv
  obtain ⟨rfl, hsz, hP, hE⟩ := hv
  subst hsz
  have hx := B.exec
  have hb := B.bytes
  have hr := B.returns
  have hts : ∀ w9 ∈ ws_all, w9.before ([.ref (ad 0), .int n, .int q, .int x, .int y, .int z] : List Value).toArray s = true := fun w9 h => atoms_spec (ws := (wc yM_set cM_set 6 (some .boolean))) B.pre w9 (List.mem_cons_of_mem _ h)
  have hown : s.vm.findClass RM = some m.cls := findClass_of_methodNamed B.named
  have hlocks := B.notSynchronized
  have hS : va_S (bw_A ad 13 s.heap.size) s.heap s.heap [] := va_S.rf
  have hl := lv_entry ([.ref (ad 0), .int n, .int q, .int x, .int y, .int z]) (n := 6) (Nat.le_of_ble_eq_true rfl)
  rw [lg_entry_eq]
  generalize (lg_sl ([.ref (ad 0), .int n, .int q, .int x, .int y, .int z]) ++ List.replicate (6 - (lg_sl ([.ref (ad 0), .int n, .int q, .int x, .int y, .int z])).length) Slot.unset).toArray = ls at hl ⊢
  have hl : lv_has ls 6 [(0, .ref (ad 0)), (1, .int n), (2, .int q), (3, .int x), (4, .int y), (5, .int z)] := hl
  have hN : aN A ≤ 48 := hA.1
  obtain ⟨hn, hrow, heye⟩ := id hC
  refine lv_aload_n hx hb dM_set_0 rfl (lv_at hl 0 rfl) ?_
  refine lv_iconst (v := nI 0) hx hb dM_set_1 (by decide) ?_
  refine bw_put (own := RM) (ci := 2) (C := RM) (T := TM) (N := 14) (v := .int (nI 0)) (ty := .int) hx hb hts inM tyM tyM_ok nmM hown hE hI hP hS 0 (by decide) rfl rfl 0 (by decide) w_316 rfl rfl ((upd (M 0).1 0 (nI 0), (M 0).2)) rfl (by decide +kernel) rfl rfl (Nat.le_of_ble_eq_true rfl) dM_set_2 (fun M_1 H locs eM_1 hP hS => ?_)
  refine lv_aload_n hx hb dM_set_5 rfl (lv_at hl 0 rfl) ?_
  refine lv_iload_n hx hb dM_set_6 rfl (lv_at hl 1 rfl) ?_
  refine vp_callSi (va_Run.run (bc_runV (own := RM) (C := RM) (As := [.int n]) (rest := []) hx hb (hml.trans hl.1.symm) hown hts (kM_isNode l D cs ad hI M_1 H.size n) w_380 w_377 w_379 ws_sel_M_isNode w_4 ⟨rfl, hd_M_isNode⟩ rfl ⟨rfl, rfl⟩ ⟨Nat.le_of_ble_eq_true rfl, Nat.le_of_ble_eq_true rfl⟩ (fun _ _ _ _ h => h.calling) (bc_recv (r := (RM, TM, 14)) hE hP 0 (by decide) rfl rfl) (fun U hU hW => ⟨by rw [hU], by rw [hU]; exact hP, hE.warm hW⟩) rfl (Nat.le_of_ble_eq_true rfl) dM_set_7 ⟨Nat.le_of_ble_eq_true rfl, Nat.le_of_ble_eq_true rfl⟩)) (fun r_7 hr_7 => ?_)
  rw [eM_1, va_up_self, show (upd (M 0).1 0 (nI 0), (M 0).2).1 1 = (M 0).1 1 from m_un (by decide), hn] at hr_7
  refine lv_if_eq (tgt := 47) hx hb dM_set_10 (by decide) (fun c_10 => ?_) (fun c_10 => ?_)
  · skip
    refine lv_iconst (v := nI 0) hx hb dM_set_47 (by decide) ?_
    exact W.zret (v := nI 0) (ty := .boolean) hx hb hr (by decide) (fun t ht hW => ⟨⟨_, M_1, rfl, Or.inr ⟨rfl, fun h9 => hr_7.f c_10 h9.1, hC.thr eM_1⟩, by show va_P _ _ _ t.heap; rw [ht]; exact hP⟩, hS.F ht⟩) hS.2.2 dM_set_48
  · skip
    refine lv_iload_n hx hb dM_set_13 rfl (lv_at hl 2 rfl) ?_
    refine lv_if_lt (tgt := 47) hx hb dM_set_14 (by decide) (fun c_14 => ?_) (fun c_14 => ?_)
    · skip
      refine lv_iconst (v := nI 0) hx hb dM_set_47 (by decide) ?_
      exact W.zret (v := nI 0) (ty := .boolean) hx hb hr (by decide) (fun t ht hW => ⟨⟨_, M_1, rfl, Or.inr ⟨rfl, fun h9 => by have := h9.2.1.1; simp only [Int32.lt_iff_toInt_lt, Int32.le_iff_toInt_le, nI, Int32.reduceOfNat, Int32.reduceToInt] at c_14 this; omega, hC.thr eM_1⟩, by show va_P _ _ _ t.heap; rw [ht]; exact hP⟩, hS.F ht⟩) hS.2.2 dM_set_48
    · skip
      refine lv_iload_n hx hb dM_set_17 rfl (lv_at hl 2 rfl) ?_
      refine lv_iconst (v := nI 3) hx hb dM_set_18 (by decide) ?_
      refine lv_icmp_ge (tgt := 47) hx hb dM_set_19 (by decide) (fun c_19 => ?_) (fun c_19 => ?_)
      · skip
        refine lv_iconst (v := nI 0) hx hb dM_set_47 (by decide) ?_
        exact W.zret (v := nI 0) (ty := .boolean) hx hb hr (by decide) (fun t ht hW => ⟨⟨_, M_1, rfl, Or.inr ⟨rfl, fun h9 => by have := h9.2.1.2; simp only [Int32.lt_iff_toInt_lt, Int32.le_iff_toInt_le, nI, Int32.reduceOfNat, Int32.reduceToInt] at c_19 this; omega, hC.thr eM_1⟩, by show va_P _ _ _ t.heap; rw [ht]; exact hP⟩, hS.F ht⟩) hS.2.2 dM_set_48
      · skip
        have hq9 : 0 ≤ q ∧ q ≤ nI 2 := by simp only [Int32.lt_iff_toInt_lt, Int32.le_iff_toInt_le, nI, Int32.reduceOfNat, Int32.reduceToInt] at c_14 c_19 ⊢; omega
        have hn9 := hr_7.t c_10
        obtain ⟨j, hj, rfl⟩ := rng_lt hn9.1 hn9.2 (by omega)
        obtain ⟨u, hu, rfl⟩ := rng_le hq9.1 hq9.2 (by decide)
        refine lv_aload_n hx hb dM_set_22 rfl (lv_at hl 0 rfl) ?_
        refine lv_bipush (v := nI 9) hx hb dM_set_23 (by decide) ?_
        refine lv_iload_n hx hb dM_set_25 rfl (lv_at hl 1 rfl) ?_
        refine ln_imul hx hb dM_set_26 ?_
        refine lv_iconst (v := nI 3) hx hb dM_set_27 (by decide) ?_
        refine lv_iload_n hx hb dM_set_28 rfl (lv_at hl 2 rfl) ?_
        refine ln_imul hx hb dM_set_29 ?_
        refine ln_iadd hx hb dM_set_30 ?_
        refine lv_iload_n hx hb dM_set_31 rfl (lv_at hl 2 rfl) ?_
        refine lv_iload_n hx hb dM_set_32 rfl (lv_at hl 3 rfl) ?_
        refine lv_iload hx hb dM_set_33 (lv_at hl 4 rfl) ?_
        refine lv_iload hx hb dM_set_35 (lv_at hl 5 rfl) ?_
        refine bc_calli (bc_runV (own := RM) (C := RM) (As := [.int (nI ((9 * j) + (3 * u))), .int (nI u), .int x, .int y, .int z]) (rest := []) hx hb (hml.trans hl.1.symm) hown hts (kM_lays l D cs ad hI M_1 H.size (9 * j + 3 * u) (by omega) (nI u) x y z) w_384 w_381 w_383 ws_sel_M_lays w_4 ⟨rfl, hd_M_lays⟩ rfl ⟨rfl, rfl⟩ ⟨Nat.le_of_ble_eq_true rfl, Nat.le_of_ble_eq_true rfl⟩ (fun _ _ _ _ h => h.calling) (bc_recv (r := (RM, TM, 14)) hE hP 0 (by decide) rfl rfl) (fun U hU hW => ⟨by rw [hU], by rw [hU]; exact hP, hE.warm hW⟩) rfl (Nat.le_of_ble_eq_true rfl) dM_set_37 ⟨Nat.le_of_ble_eq_true rfl, Nat.le_of_ble_eq_true rfl⟩) hS (fun r_37 M_2 H locs hr_37 hP hS => ?_)
        have hl9 := hr_37
        refine lv_if_eq (tgt := 47) hx hb dM_set_40 (by decide) (fun c_40 => ?_) (fun c_40 => ?_)
        · skip
          refine lv_iconst (v := nI 0) hx hb dM_set_47 (by decide) ?_
          exact W.zret (v := nI 0) (ty := .boolean) hx hb hr (by decide) (fun t ht hW => ⟨⟨_, M_2, rfl, by rcases hl9 with ⟨h8, -, -⟩ | ⟨-, h8, h7⟩; exact absurd (h8.symm.trans c_40) (by decide); exact Or.inr ⟨rfl, fun h9 => h8 h9.2.2, by rw [h7]; exact hC.thr eM_1⟩, by show va_P _ _ _ t.heap; rw [ht]; exact hP⟩, hS.F ht⟩) hS.2.2 dM_set_48
        · skip
          refine lv_iconst (v := nI 1) hx hb dM_set_43 (by decide) ?_
          refine lv_goto (tgt := 48) hx hb dM_set_44 (by decide) ?_
          exact W.zret (v := nI 1) (ty := .boolean) hx hb hr (by decide) (fun t ht hW => ⟨⟨_, M_2, rfl, by rcases hl9 with ⟨-, h8, h7⟩ | ⟨h8, -, -⟩; exact Or.inl ⟨rfl, ⟨hn9, hq9, h8⟩, by rw [nI_clamp (by omega), nI_clamp (by omega)]; exact (hC.thr eM_1).set hA hj (by omega) h7⟩; exact absurd h8 c_40, by show va_P _ _ _ t.heap; rw [ht]; exact hP⟩, hS.F ht⟩) hS.2.2 dM_set_48

set_option maxHeartbeats 4000000 in
set_option maxRecDepth 100000 in
theorem kM_hang (l : Launch) (D : va_G) (cs : Nat → ClassId) (ad : Nat → Nat) (hI : bw_I ad 13) (M : Nat → mRow) (sz : Nat) (A : Ab) (hA : aOk A) (hC : Ref A M) (n q : Int32)  : Met l yM_hang (wc yM_hang cM_hang 3 (some .boolean)) ({ frames := 1, cells := 0, slots := 0, locals := 21 } : Room) (va_Pc [.ref (ad 0), .int n, .int q] (mP D cs ad M sz)) (bQi D ad 13 (mc_cell cs ad) sz (fun r M1 => (r = nI 1 ∧ pHang A n q ∧ Ref (hangA A n.toNatClampNeg q) M1) ∨ (r = nI 0 ∧ ¬ pHang A n q ∧ Ref A M1))) 0 0 (bw_A ad 13 sz) := by
  refine Met.ofW (cc := cM_hang) (maxL := 3) (ret := (some .boolean)) (by decide +kernel) rfl ?_
  intro p e s m args below meth c s₁ B hml hv
  obtain ⟨rfl, hsz, hP, hE⟩ := hv
  subst hsz
  have hx := B.exec
  have hb := B.bytes
  have hr := B.returns
  have hts : ∀ w9 ∈ ws_all, w9.before ([.ref (ad 0), .int n, .int q] : List Value).toArray s = true := fun w9 h => atoms_spec (ws := (wc yM_hang cM_hang 3 (some .boolean))) B.pre w9 (List.mem_cons_of_mem _ h)
  have hown : s.vm.findClass RM = some m.cls := findClass_of_methodNamed B.named
  have hlocks := B.notSynchronized
  have hS : va_S (bw_A ad 13 s.heap.size) s.heap s.heap [] := va_S.rf
  have hl := lv_entry ([.ref (ad 0), .int n, .int q]) (n := 3) (Nat.le_of_ble_eq_true rfl)
  rw [lg_entry_eq]
  generalize (lg_sl ([.ref (ad 0), .int n, .int q]) ++ List.replicate (3 - (lg_sl ([.ref (ad 0), .int n, .int q])).length) Slot.unset).toArray = ls at hl ⊢
  have hl : lv_has ls 3 [(0, .ref (ad 0)), (1, .int n), (2, .int q)] := hl
  have hN : aN A ≤ 48 := hA.1
  obtain ⟨hn, hrow, heye⟩ := id hC
  refine lv_aload_n hx hb dM_hang_0 rfl (lv_at hl 0 rfl) ?_
  refine lv_iconst (v := nI 0) hx hb dM_hang_1 (by decide) ?_
  refine bw_put (own := RM) (ci := 2) (C := RM) (T := TM) (N := 14) (v := .int (nI 0)) (ty := .int) hx hb hts inM tyM tyM_ok nmM hown hE hI hP hS 0 (by decide) rfl rfl 0 (by decide) w_316 rfl rfl ((upd (M 0).1 0 (nI 0), (M 0).2)) rfl (by decide +kernel) rfl rfl (Nat.le_of_ble_eq_true rfl) dM_hang_2 (fun M_1 H locs eM_1 hP hS => ?_)
  refine lv_aload_n hx hb dM_hang_5 rfl (lv_at hl 0 rfl) ?_
  refine lv_iload_n hx hb dM_hang_6 rfl (lv_at hl 1 rfl) ?_
  refine vp_callSi (va_Run.run (bc_runV (own := RM) (C := RM) (As := [.int n]) (rest := []) hx hb (hml.trans hl.1.symm) hown hts (kM_isNode l D cs ad hI M_1 H.size n) w_380 w_377 w_379 ws_sel_M_isNode w_4 ⟨rfl, hd_M_isNode⟩ rfl ⟨rfl, rfl⟩ ⟨Nat.le_of_ble_eq_true rfl, Nat.le_of_ble_eq_true rfl⟩ (fun _ _ _ _ h => h.calling) (bc_recv (r := (RM, TM, 14)) hE hP 0 (by decide) rfl rfl) (fun U hU hW => ⟨by rw [hU], by rw [hU]; exact hP, hE.warm hW⟩) rfl (Nat.le_of_ble_eq_true rfl) dM_hang_7 ⟨Nat.le_of_ble_eq_true rfl, Nat.le_of_ble_eq_true rfl⟩)) (fun r_7 hr_7 => ?_)
  rw [eM_1, va_up_self, show (upd (M 0).1 0 (nI 0), (M 0).2).1 1 = (M 0).1 1 from m_un (by decide), hn] at hr_7
  refine lv_if_eq (tgt := 23) hx hb dM_hang_10 (by decide) (fun c_10 => ?_) (fun c_10 => ?_)
  · skip
    refine lv_iconst (v := nI 0) hx hb dM_hang_23 (by decide) ?_
    exact W.zret (v := nI 0) (ty := .boolean) hx hb hr (by decide) (fun t ht hW => ⟨⟨_, M_1, rfl, Or.inr ⟨rfl, fun h9 => hr_7.f c_10 h9.1, hC.thr eM_1⟩, by show va_P _ _ _ t.heap; rw [ht]; exact hP⟩, hS.F ht⟩) hS.2.2 dM_hang_24
  · skip
    refine lv_iload_n hx hb dM_hang_13 rfl (lv_at hl 2 rfl) ?_
    refine lv_iconst (v := (-1)) hx hb dM_hang_14 (by decide) ?_
    refine lv_icmp_lt (tgt := 23) hx hb dM_hang_15 (by decide) (fun c_15 => ?_) (fun c_15 => ?_)
    · skip
      refine lv_iconst (v := nI 0) hx hb dM_hang_23 (by decide) ?_
      exact W.zret (v := nI 0) (ty := .boolean) hx hb hr (by decide) (fun t ht hW => ⟨⟨_, M_1, rfl, Or.inr ⟨rfl, fun h9 => by have := h9.2.1; simp only [Int32.lt_iff_toInt_lt, Int32.le_iff_toInt_le, nI, Int32.reduceOfNat, Int32.reduceToInt] at c_15 this; omega, hC.thr eM_1⟩, by show va_P _ _ _ t.heap; rw [ht]; exact hP⟩, hS.F ht⟩) hS.2.2 dM_hang_24
    · skip
      refine lv_iload_n hx hb dM_hang_18 rfl (lv_at hl 2 rfl) ?_
      refine lv_iload_n hx hb dM_hang_19 rfl (lv_at hl 1 rfl) ?_
      refine lv_icmp_lt (tgt := 25) hx hb dM_hang_20 (by decide) (fun c_20 => ?_) (fun c_20 => ?_)
      · skip
        have hp9 : pHang A n q := ⟨hr_7.t c_10, by simp only [Int32.lt_iff_toInt_lt, Int32.le_iff_toInt_le, nI, Int32.reduceOfNat, Int32.reduceToInt] at c_15 c_20 ⊢; omega⟩
        obtain ⟨j, hj, rfl⟩ := rng_lt hp9.1.1 hp9.1.2 (by omega)
        refine lv_aload_n hx hb dM_hang_25 rfl (lv_at hl 0 rfl) ?_
        refine bw_get (own := RM) (ci := 2) (C := RM) (T := TM) (N := 14) (v := .ref (ad 1)) hx hb hts inM hown hE hP 0 (by decide) rfl rfl 2 (by decide) w_318 rfl rfl dM_hang_26 ?_
        refine lv_iload_n hx hb dM_hang_29 rfl (lv_at hl 1 rfl) ?_
        refine lv_iload_n hx hb dM_hang_30 rfl (lv_at hl 2 rfl) ?_
        refine ln_iast (L := 48) hx hb hE hI hP hS 1 0 (by decide) (rfl) rfl (by omega) (by decide) ((upd (M_1 1).1 j q, (M_1 1).2)) (rfl) dM_hang_31 (fun M_2 H locs eM_2 hP hS => ?_)
        refine lv_iconst (v := nI 1) hx hb dM_hang_32 (by decide) ?_
        exact W.zret (v := nI 1) (ty := .boolean) hx hb hr (by decide) (fun t ht hW => ⟨⟨_, M_2, rfl, Or.inl ⟨rfl, hp9, by rw [nI_clamp (by omega)]; exact (hC.thr eM_1).hang eM_2⟩, by show va_P _ _ _ t.heap; rw [ht]; exact hP⟩, hS.F ht⟩) hS.2.2 dM_hang_33
      · skip
        refine lv_iconst (v := nI 0) hx hb dM_hang_23 (by decide) ?_
        exact W.zret (v := nI 0) (ty := .boolean) hx hb hr (by decide) (fun t ht hW => ⟨⟨_, M_1, rfl, Or.inr ⟨rfl, fun h9 => by have := h9.2.2; simp only [Int32.lt_iff_toInt_lt, Int32.le_iff_toInt_le, nI, Int32.reduceOfNat, Int32.reduceToInt] at c_20 this; omega, hC.thr eM_1⟩, by show va_P _ _ _ t.heap; rw [ht]; exact hP⟩, hS.F ht⟩) hS.2.2 dM_hang_24

set_option maxHeartbeats 4000000 in
set_option maxRecDepth 100000 in
theorem kM_hide (l : Launch) (D : va_G) (cs : Nat → ClassId) (ad : Nat → Nat) (hI : bw_I ad 13) (M : Nat → mRow) (sz : Nat) (A : Ab) (hA : aOk A) (hC : Ref A M) (n b : Int32)  : Met l yM_hide (wc yM_hide cM_hide 3 (some .boolean)) ({ frames := 1, cells := 0, slots := 0, locals := 21 } : Room) (va_Pc [.ref (ad 0), .int n, .int b] (mP D cs ad M sz)) (bQi D ad 13 (mc_cell cs ad) sz (fun r M1 => (r = nI 1 ∧ pNode A n ∧ Ref (hideA A n.toNatClampNeg b) M1) ∨ (r = nI 0 ∧ ¬ pNode A n ∧ Ref A M1))) 0 0 (bw_A ad 13 sz) := by
  refine Met.ofW (cc := cM_hide) (maxL := 3) (ret := (some .boolean)) (by decide +kernel) rfl ?_
  intro p e s m args below meth c s₁ B hml hv
  obtain ⟨rfl, hsz, hP, hE⟩ := hv
  subst hsz
  have hx := B.exec
  have hb := B.bytes
  have hr := B.returns
  have hts : ∀ w9 ∈ ws_all, w9.before ([.ref (ad 0), .int n, .int b] : List Value).toArray s = true := fun w9 h => atoms_spec (ws := (wc yM_hide cM_hide 3 (some .boolean))) B.pre w9 (List.mem_cons_of_mem _ h)
  have hown : s.vm.findClass RM = some m.cls := findClass_of_methodNamed B.named
  have hlocks := B.notSynchronized
  have hS : va_S (bw_A ad 13 s.heap.size) s.heap s.heap [] := va_S.rf
  have hl := lv_entry ([.ref (ad 0), .int n, .int b]) (n := 3) (Nat.le_of_ble_eq_true rfl)
  rw [lg_entry_eq]
  generalize (lg_sl ([.ref (ad 0), .int n, .int b]) ++ List.replicate (3 - (lg_sl ([.ref (ad 0), .int n, .int b])).length) Slot.unset).toArray = ls at hl ⊢
  have hl : lv_has ls 3 [(0, .ref (ad 0)), (1, .int n), (2, .int b)] := hl
  have hN : aN A ≤ 48 := hA.1
  obtain ⟨hn, hrow, heye⟩ := id hC
  refine lv_aload_n hx hb dM_hide_0 rfl (lv_at hl 0 rfl) ?_
  refine lv_iconst (v := nI 0) hx hb dM_hide_1 (by decide) ?_
  refine bw_put (own := RM) (ci := 2) (C := RM) (T := TM) (N := 14) (v := .int (nI 0)) (ty := .int) hx hb hts inM tyM tyM_ok nmM hown hE hI hP hS 0 (by decide) rfl rfl 0 (by decide) w_316 rfl rfl ((upd (M 0).1 0 (nI 0), (M 0).2)) rfl (by decide +kernel) rfl rfl (Nat.le_of_ble_eq_true rfl) dM_hide_2 (fun M_1 H locs eM_1 hP hS => ?_)
  refine lv_aload_n hx hb dM_hide_5 rfl (lv_at hl 0 rfl) ?_
  refine lv_iload_n hx hb dM_hide_6 rfl (lv_at hl 1 rfl) ?_
  refine vp_callSi (va_Run.run (bc_runV (own := RM) (C := RM) (As := [.int n]) (rest := []) hx hb (hml.trans hl.1.symm) hown hts (kM_isNode l D cs ad hI M_1 H.size n) w_380 w_377 w_379 ws_sel_M_isNode w_4 ⟨rfl, hd_M_isNode⟩ rfl ⟨rfl, rfl⟩ ⟨Nat.le_of_ble_eq_true rfl, Nat.le_of_ble_eq_true rfl⟩ (fun _ _ _ _ h => h.calling) (bc_recv (r := (RM, TM, 14)) hE hP 0 (by decide) rfl rfl) (fun U hU hW => ⟨by rw [hU], by rw [hU]; exact hP, hE.warm hW⟩) rfl (Nat.le_of_ble_eq_true rfl) dM_hide_7 ⟨Nat.le_of_ble_eq_true rfl, Nat.le_of_ble_eq_true rfl⟩)) (fun r_7 hr_7 => ?_)
  rw [eM_1, va_up_self, show (upd (M 0).1 0 (nI 0), (M 0).2).1 1 = (M 0).1 1 from m_un (by decide), hn] at hr_7
  refine lv_if_ne (tgt := 15) hx hb dM_hide_10 (by decide) (fun c_10 => ?_) (fun c_10 => ?_)
  · skip
    have hp9 : pNode A n := hr_7.t c_10
    obtain ⟨j, hj, rfl⟩ := rng_lt hp9.1 hp9.2 (by omega)
    refine lv_aload_n hx hb dM_hide_15 rfl (lv_at hl 0 rfl) ?_
    refine bw_get (own := RM) (ci := 2) (C := RM) (T := TM) (N := 14) (v := .ref (ad 3)) hx hb hts inM hown hE hP 0 (by decide) rfl rfl 4 (by decide) w_320 rfl rfl dM_hide_16 ?_
    refine lv_iload_n hx hb dM_hide_19 rfl (lv_at hl 1 rfl) ?_
    refine lv_iload_n hx hb dM_hide_20 rfl (lv_at hl 2 rfl) ?_
    refine ln_zast (L := 48) hx hb hE hI hP hS 3 1 (by decide) (rfl) rfl (by omega) (by decide) ((upd (M_1 3).1 j (vp_nar .boolean b), (M_1 3).2)) (rfl) dM_hide_21 (fun M_2 H locs eM_2 hP hS => ?_)
    refine lv_iconst (v := nI 1) hx hb dM_hide_22 (by decide) ?_
    exact W.zret (v := nI 1) (ty := .boolean) hx hb hr (by decide) (fun t ht hW => ⟨⟨_, M_2, rfl, Or.inl ⟨rfl, hp9, by rw [nI_clamp (by omega)]; exact (hC.thr eM_1).hide eM_2⟩, by show va_P _ _ _ t.heap; rw [ht]; exact hP⟩, hS.F ht⟩) hS.2.2 dM_hide_23
  · skip
    refine lv_iconst (v := nI 0) hx hb dM_hide_13 (by decide) ?_
    exact W.zret (v := nI 0) (ty := .boolean) hx hb hr (by decide) (fun t ht hW => ⟨⟨_, M_1, rfl, Or.inr ⟨rfl, hr_7.f c_10, hC.thr eM_1⟩, by show va_P _ _ _ t.heap; rw [ht]; exact hP⟩, hS.F ht⟩) hS.2.2 dM_hide_14

set_option maxHeartbeats 4000000 in
set_option maxRecDepth 100000 in
theorem kM_camera (l : Launch) (D : va_G) (cs : Nat → ClassId) (ad : Nat → Nat) (hI : bw_I ad 13) (M : Nat → mRow) (sz : Nat) (A : Ab) (hA : aOk A) (hC : Ref A M) (q x y z : Int32)  : Met l yM_camera (wc yM_camera cM_camera 5 (some .boolean)) ({ frames := 2, cells := 0, slots := 0, locals := 47 } : Room) (va_Pc [.ref (ad 0), .int q, .int x, .int y, .int z] (mP D cs ad M sz)) (bQi D ad 13 (mc_cell cs ad) sz (fun r M1 => (r = nI 1 ∧ pCam q x y z ∧ Ref (camA A q.toNatClampNeg x y z) M1) ∨ (r = nI 0 ∧ ¬ pCam q x y z ∧ Ref A M1))) 0 0 (bw_A ad 13 sz) := by
  refine Met.ofW (cc := cM_camera) (maxL := 5) (ret := (some .boolean)) (by decide +kernel) rfl ?_
  intro p e s m args below meth c s₁ B hml hv
  obtain ⟨rfl, hsz, hP, hE⟩ := hv
  subst hsz
  have hx := B.exec
  have hb := B.bytes
  have hr := B.returns
  have hts : ∀ w9 ∈ ws_all, w9.before ([.ref (ad 0), .int q, .int x, .int y, .int z] : List Value).toArray s = true := fun w9 h => atoms_spec (ws := (wc yM_camera cM_camera 5 (some .boolean))) B.pre w9 (List.mem_cons_of_mem _ h)
  have hown : s.vm.findClass RM = some m.cls := findClass_of_methodNamed B.named
  have hlocks := B.notSynchronized
  have hS : va_S (bw_A ad 13 s.heap.size) s.heap s.heap [] := va_S.rf
  have hl := lv_entry ([.ref (ad 0), .int q, .int x, .int y, .int z]) (n := 5) (Nat.le_of_ble_eq_true rfl)
  rw [lg_entry_eq]
  generalize (lg_sl ([.ref (ad 0), .int q, .int x, .int y, .int z]) ++ List.replicate (5 - (lg_sl ([.ref (ad 0), .int q, .int x, .int y, .int z])).length) Slot.unset).toArray = ls at hl ⊢
  have hl : lv_has ls 5 [(0, .ref (ad 0)), (1, .int q), (2, .int x), (3, .int y), (4, .int z)] := hl
  have hN : aN A ≤ 48 := hA.1
  obtain ⟨hn, hrow, heye⟩ := id hC
  refine lv_aload_n hx hb dM_camera_0 rfl (lv_at hl 0 rfl) ?_
  refine lv_iconst (v := nI 0) hx hb dM_camera_1 (by decide) ?_
  refine bw_put (own := RM) (ci := 2) (C := RM) (T := TM) (N := 14) (v := .int (nI 0)) (ty := .int) hx hb hts inM tyM tyM_ok nmM hown hE hI hP hS 0 (by decide) rfl rfl 0 (by decide) w_316 rfl rfl ((upd (M 0).1 0 (nI 0), (M 0).2)) rfl (by decide +kernel) rfl rfl (Nat.le_of_ble_eq_true rfl) dM_camera_2 (fun M_1 H locs eM_1 hP hS => ?_)
  refine lv_iload_n hx hb dM_camera_5 rfl (lv_at hl 1 rfl) ?_
  refine lv_if_eq (tgt := 14) hx hb dM_camera_6 (by decide) (fun c_6 => ?_) (fun c_6 => ?_)
  · skip
    obtain ⟨u, hu, rfl⟩ : ∃ u, u < 2 ∧ q = nI u := ⟨0, by decide, c_6⟩
    have hq9 : 0 ≤ nI u ∧ nI u ≤ nI 1 := ⟨nI_pos' (by omega), nI_le (by omega) (by decide)⟩
    refine lv_aload_n hx hb dM_camera_14 rfl (lv_at hl 0 rfl) ?_
    refine lv_sipush (v := nI 432) hx hb dM_camera_15 (by decide) ?_
    refine lv_iconst (v := nI 3) hx hb dM_camera_18 (by decide) ?_
    refine lv_iload_n hx hb dM_camera_19 rfl (lv_at hl 1 rfl) ?_
    refine ln_imul hx hb dM_camera_20 ?_
    refine ln_iadd hx hb dM_camera_21 ?_
    refine lv_iload_n hx hb dM_camera_22 rfl (lv_at hl 1 rfl) ?_
    refine lv_iload_n hx hb dM_camera_23 rfl (lv_at hl 2 rfl) ?_
    refine lv_iload_n hx hb dM_camera_24 rfl (lv_at hl 3 rfl) ?_
    refine lv_iload hx hb dM_camera_25 (lv_at hl 4 rfl) ?_
    refine bc_calli (bc_runV (own := RM) (C := RM) (As := [.int (nI (432 + (3 * u))), .int (nI u), .int x, .int y, .int z]) (rest := []) hx hb (hml.trans hl.1.symm) hown hts (kM_lays l D cs ad hI M_1 H.size (432 + 3 * u) (by omega) (nI u) x y z) w_384 w_381 w_383 ws_sel_M_lays w_4 ⟨rfl, hd_M_lays⟩ rfl ⟨rfl, rfl⟩ ⟨Nat.le_of_ble_eq_true rfl, Nat.le_of_ble_eq_true rfl⟩ (fun _ _ _ _ h => h.calling) (bc_recv (r := (RM, TM, 14)) hE hP 0 (by decide) rfl rfl) (fun U hU hW => ⟨by rw [hU], by rw [hU]; exact hP, hE.warm hW⟩) rfl (Nat.le_of_ble_eq_true rfl) dM_camera_27 ⟨Nat.le_of_ble_eq_true rfl, Nat.le_of_ble_eq_true rfl⟩) hS (fun r_27 M_2 H locs hr_27 hP hS => ?_)
    have hl9 := hr_27
    refine lv_if_eq (tgt := 37) hx hb dM_camera_30 (by decide) (fun c_30 => ?_) (fun c_30 => ?_)
    · skip
      refine lv_iconst (v := nI 0) hx hb dM_camera_37 (by decide) ?_
      exact W.zret (v := nI 0) (ty := .boolean) hx hb hr (by decide) (fun t ht hW => ⟨⟨_, M_2, rfl, by rcases hl9 with ⟨h8, -, -⟩ | ⟨-, h8, h7⟩; exact absurd (h8.symm.trans c_30) (by decide); exact Or.inr ⟨rfl, fun h9 => h8 h9.2, by rw [h7]; exact hC.thr eM_1⟩, by show va_P _ _ _ t.heap; rw [ht]; exact hP⟩, hS.F ht⟩) hS.2.2 dM_camera_38
    · skip
      refine lv_iconst (v := nI 1) hx hb dM_camera_33 (by decide) ?_
      refine lv_goto (tgt := 38) hx hb dM_camera_34 (by decide) ?_
      exact W.zret (v := nI 1) (ty := .boolean) hx hb hr (by decide) (fun t ht hW => ⟨⟨_, M_2, rfl, by rcases hl9 with ⟨-, h8, h7⟩ | ⟨h8, -, -⟩; exact Or.inl ⟨rfl, ⟨hq9, h8⟩, by rw [nI_clamp (by omega)]; exact (hC.thr eM_1).cam hA (by omega) h7⟩; exact absurd h8 c_30, by show va_P _ _ _ t.heap; rw [ht]; exact hP⟩, hS.F ht⟩) hS.2.2 dM_camera_38
  · skip
    refine lv_iload_n hx hb dM_camera_9 rfl (lv_at hl 1 rfl) ?_
    refine lv_iconst (v := nI 1) hx hb dM_camera_10 (by decide) ?_
    refine lv_icmp_ne (tgt := 37) hx hb dM_camera_11 (by decide) (fun c_11 => ?_) (fun c_11 => ?_)
    · skip
      refine lv_iconst (v := nI 0) hx hb dM_camera_37 (by decide) ?_
      exact W.zret (v := nI 0) (ty := .boolean) hx hb hr (by decide) (fun t ht hW => ⟨⟨_, M_1, rfl, Or.inr ⟨rfl, fun h9 => by obtain ⟨u, hu, rfl⟩ := rng_le h9.1.1 h9.1.2 (by decide); rcases (show u = 0 ∨ u = 1 by omega) with rfl | rfl; exact c_6 rfl; exact c_11 rfl, hC.thr eM_1⟩, by show va_P _ _ _ t.heap; rw [ht]; exact hP⟩, hS.F ht⟩) hS.2.2 dM_camera_38
    · skip
      obtain ⟨u, hu, rfl⟩ : ∃ u, u < 2 ∧ q = nI u := ⟨1, by decide, c_11⟩
      have hq9 : 0 ≤ nI u ∧ nI u ≤ nI 1 := ⟨nI_pos' (by omega), nI_le (by omega) (by decide)⟩
      refine lv_aload_n hx hb dM_camera_14 rfl (lv_at hl 0 rfl) ?_
      refine lv_sipush (v := nI 432) hx hb dM_camera_15 (by decide) ?_
      refine lv_iconst (v := nI 3) hx hb dM_camera_18 (by decide) ?_
      refine lv_iload_n hx hb dM_camera_19 rfl (lv_at hl 1 rfl) ?_
      refine ln_imul hx hb dM_camera_20 ?_
      refine ln_iadd hx hb dM_camera_21 ?_
      refine lv_iload_n hx hb dM_camera_22 rfl (lv_at hl 1 rfl) ?_
      refine lv_iload_n hx hb dM_camera_23 rfl (lv_at hl 2 rfl) ?_
      refine lv_iload_n hx hb dM_camera_24 rfl (lv_at hl 3 rfl) ?_
      refine lv_iload hx hb dM_camera_25 (lv_at hl 4 rfl) ?_
      refine bc_calli (bc_runV (own := RM) (C := RM) (As := [.int (nI (432 + (3 * u))), .int (nI u), .int x, .int y, .int z]) (rest := []) hx hb (hml.trans hl.1.symm) hown hts (kM_lays l D cs ad hI M_1 H.size (432 + 3 * u) (by omega) (nI u) x y z) w_384 w_381 w_383 ws_sel_M_lays w_4 ⟨rfl, hd_M_lays⟩ rfl ⟨rfl, rfl⟩ ⟨Nat.le_of_ble_eq_true rfl, Nat.le_of_ble_eq_true rfl⟩ (fun _ _ _ _ h => h.calling) (bc_recv (r := (RM, TM, 14)) hE hP 0 (by decide) rfl rfl) (fun U hU hW => ⟨by rw [hU], by rw [hU]; exact hP, hE.warm hW⟩) rfl (Nat.le_of_ble_eq_true rfl) dM_camera_27 ⟨Nat.le_of_ble_eq_true rfl, Nat.le_of_ble_eq_true rfl⟩) hS (fun r_27 M_3 H locs hr_27 hP hS => ?_)
      have hl9 := hr_27
      refine lv_if_eq (tgt := 37) hx hb dM_camera_30 (by decide) (fun c_30 => ?_) (fun c_30 => ?_)
      · skip
        refine lv_iconst (v := nI 0) hx hb dM_camera_37 (by decide) ?_
        exact W.zret (v := nI 0) (ty := .boolean) hx hb hr (by decide) (fun t ht hW => ⟨⟨_, M_3, rfl, by rcases hl9 with ⟨h8, -, -⟩ | ⟨-, h8, h7⟩; exact absurd (h8.symm.trans c_30) (by decide); exact Or.inr ⟨rfl, fun h9 => h8 h9.2, by rw [h7]; exact hC.thr eM_1⟩, by show va_P _ _ _ t.heap; rw [ht]; exact hP⟩, hS.F ht⟩) hS.2.2 dM_camera_38
      · skip
        refine lv_iconst (v := nI 1) hx hb dM_camera_33 (by decide) ?_
        refine lv_goto (tgt := 38) hx hb dM_camera_34 (by decide) ?_
        exact W.zret (v := nI 1) (ty := .boolean) hx hb hr (by decide) (fun t ht hW => ⟨⟨_, M_3, rfl, by rcases hl9 with ⟨-, h8, h7⟩ | ⟨h8, -, -⟩; exact Or.inl ⟨rfl, ⟨hq9, h8⟩, by rw [nI_clamp (by omega)]; exact (hC.thr eM_1).cam hA (by omega) h7⟩; exact absurd h8 c_30, by show va_P _ _ _ t.heap; rw [ht]; exact hP⟩, hS.F ht⟩) hS.2.2 dM_camera_38

set_option maxHeartbeats 4000000 in
set_option maxRecDepth 100000 in
theorem kM_add (l : Launch) (D : va_G) (cs : Nat → ClassId) (ad : Nat → Nat) (hI : bw_I ad 13) (M : Nat → mRow) (sz : Nat) (A : Ab) (hA : aOk A) (hC : Ref A M) (q k : Int32)  : Met l yM_add (wc yM_add cM_add 4 (some .int)) ({ frames := 0, cells := 0, slots := 0, locals := 0 } : Room) (va_Pc [.ref (ad 0), .int q, .int k] (mP D cs ad M sz)) (bQi D ad 13 (mc_cell cs ad) sz (fun r M1 => (r = nI (aN A) ∧ pAdd A q k ∧ Ref (addA A q k) M1) ∨ (r = (-1) ∧ ¬ pAdd A q k ∧ Ref A M1))) 0 0 (bw_A ad 13 sz) := by
  refine Met.ofW (cc := cM_add) (maxL := 4) (ret := (some .int)) (by decide +kernel) rfl ?_
  intro p e s m args below meth c s₁ B hml hv
  obtain ⟨rfl, hsz, hP, hE⟩ := hv
  subst hsz
  have hx := B.exec
  have hb := B.bytes
  have hr := B.returns
  have hts : ∀ w9 ∈ ws_all, w9.before ([.ref (ad 0), .int q, .int k] : List Value).toArray s = true := fun w9 h => atoms_spec (ws := (wc yM_add cM_add 4 (some .int))) B.pre w9 (List.mem_cons_of_mem _ h)
  have hown : s.vm.findClass RM = some m.cls := findClass_of_methodNamed B.named
  have hlocks := B.notSynchronized
  have hS : va_S (bw_A ad 13 s.heap.size) s.heap s.heap [] := va_S.rf
  have hl := lv_entry ([.ref (ad 0), .int q, .int k]) (n := 4) (Nat.le_of_ble_eq_true rfl)
  rw [lg_entry_eq]
  generalize (lg_sl ([.ref (ad 0), .int q, .int k]) ++ List.replicate (4 - (lg_sl ([.ref (ad 0), .int q, .int k])).length) Slot.unset).toArray = ls at hl ⊢
  have hl : lv_has ls 4 [(0, .ref (ad 0)), (1, .int q), (2, .int k)] := hl
  have hN : aN A ≤ 48 := hA.1
  obtain ⟨hn, hrow, heye⟩ := id hC
  have hN1 : ∀ M1 : Nat → mRow, M1 = va_up M 0 (upd (M 0).1 0 (nI 0), (M 0).2) → (M1 0).1 1 = nI (aN A) := fun M1 e => by rw [e, va_up_self]; exact (m_un (by decide)).trans hn
  refine lv_aload_n hx hb dM_add_0 rfl (lv_at hl 0 rfl) ?_
  refine lv_iconst (v := nI 0) hx hb dM_add_1 (by decide) ?_
  refine bw_put (own := RM) (ci := 2) (C := RM) (T := TM) (N := 14) (v := .int (nI 0)) (ty := .int) hx hb hts inM tyM tyM_ok nmM hown hE hI hP hS 0 (by decide) rfl rfl 0 (by decide) w_316 rfl rfl ((upd (M 0).1 0 (nI 0), (M 0).2)) rfl (by decide +kernel) rfl rfl (Nat.le_of_ble_eq_true rfl) dM_add_2 (fun M_1 H locs eM_1 hP hS => ?_)
  refine lv_aload_n hx hb dM_add_5 rfl (lv_at hl 0 rfl) ?_
  refine bw_get (own := RM) (ci := 2) (C := RM) (T := TM) (N := 14) (v := .int ((M_1 0).1 1)) hx hb hts inM hown hE hP 0 (by decide) rfl rfl 1 (by decide) w_317 rfl rfl dM_add_6 ?_
  refine ln_asi (nI (aN A)) (by exact hN1 _ eM_1) ?_
  refine lv_bipush (v := nI 48) hx hb dM_add_9 (by decide) ?_
  refine ln_icmp_eq (tgt := 36) hx hb dM_add_11 (by decide) (by omega) (by omega) (fun c_11 => ?_) (fun c_11 => ?_)
  · skip
    refine lv_iconst (v := (-1)) hx hb dM_add_36 (by decide) ?_
    exact W.iret (v := (-1)) hx hb hr (fun t ht hW => ⟨⟨_, M_1, rfl, Or.inr ⟨rfl, fun h9 => by have := h9.1; omega, hC.thr eM_1⟩, by show va_P _ _ _ t.heap; rw [ht]; exact hP⟩, hS.F ht⟩) hS.2.2 dM_add_37
  · skip
    refine lv_iload_n hx hb dM_add_14 rfl (lv_at hl 1 rfl) ?_
    refine lv_iconst (v := (-1)) hx hb dM_add_15 (by decide) ?_
    refine lv_icmp_lt (tgt := 36) hx hb dM_add_16 (by decide) (fun c_16 => ?_) (fun c_16 => ?_)
    · skip
      refine lv_iconst (v := (-1)) hx hb dM_add_36 (by decide) ?_
      exact W.iret (v := (-1)) hx hb hr (fun t ht hW => ⟨⟨_, M_1, rfl, Or.inr ⟨rfl, fun h9 => by have := h9.2.1.1; simp only [Int32.lt_iff_toInt_lt, Int32.le_iff_toInt_le, nI, Int32.reduceOfNat, Int32.reduceToInt] at c_16 this; omega, hC.thr eM_1⟩, by show va_P _ _ _ t.heap; rw [ht]; exact hP⟩, hS.F ht⟩) hS.2.2 dM_add_37
    · skip
      refine lv_iload_n hx hb dM_add_19 rfl (lv_at hl 1 rfl) ?_
      refine lv_aload_n hx hb dM_add_20 rfl (lv_at hl 0 rfl) ?_
      refine bw_get (own := RM) (ci := 2) (C := RM) (T := TM) (N := 14) (v := .int ((M_1 0).1 1)) hx hb hts inM hown hE hP 0 (by decide) rfl rfl 1 (by decide) w_317 rfl rfl dM_add_21 ?_
      refine ln_asi (nI (aN A)) (by exact hN1 _ eM_1) ?_
      refine lv_icmp_ge (tgt := 36) hx hb dM_add_24 (by decide) (fun c_24 => ?_) (fun c_24 => ?_)
      · skip
        refine lv_iconst (v := (-1)) hx hb dM_add_36 (by decide) ?_
        exact W.iret (v := (-1)) hx hb hr (fun t ht hW => ⟨⟨_, M_1, rfl, Or.inr ⟨rfl, fun h9 => by have := h9.2.1.2; simp only [Int32.lt_iff_toInt_lt, Int32.le_iff_toInt_le, Int32.reduceOfNat, Int32.reduceToInt] at c_24 this; omega, hC.thr eM_1⟩, by show va_P _ _ _ t.heap; rw [ht]; exact hP⟩, hS.F ht⟩) hS.2.2 dM_add_37
      · skip
        refine lv_iload_n hx hb dM_add_27 rfl (lv_at hl 2 rfl) ?_
        refine lv_if_lt (tgt := 36) hx hb dM_add_28 (by decide) (fun c_28 => ?_) (fun c_28 => ?_)
        · skip
          refine lv_iconst (v := (-1)) hx hb dM_add_36 (by decide) ?_
          exact W.iret (v := (-1)) hx hb hr (fun t ht hW => ⟨⟨_, M_1, rfl, Or.inr ⟨rfl, fun h9 => by have := h9.2.2.1; simp only [Int32.lt_iff_toInt_lt, Int32.le_iff_toInt_le, nI, Int32.reduceOfNat, Int32.reduceToInt] at c_28 this; omega, hC.thr eM_1⟩, by show va_P _ _ _ t.heap; rw [ht]; exact hP⟩, hS.F ht⟩) hS.2.2 dM_add_37
        · skip
          refine lv_iload_n hx hb dM_add_31 rfl (lv_at hl 2 rfl) ?_
          refine lv_iconst (v := nI 2) hx hb dM_add_32 (by decide) ?_
          refine lv_icmp_le (tgt := 38) hx hb dM_add_33 (by decide) (fun c_33 => ?_) (fun c_33 => ?_)
          · skip
            have hp9 : pAdd A q k := ⟨by omega, by simp only [Int32.lt_iff_toInt_lt, Int32.le_iff_toInt_le, Int32.reduceOfNat, Int32.reduceToInt] at c_16 c_24 ⊢; omega, by simp only [Int32.lt_iff_toInt_lt, Int32.le_iff_toInt_le, nI, Int32.reduceOfNat, Int32.reduceToInt] at c_28 c_33 ⊢; omega⟩
            have hN9 : aN A < 48 := hp9.1
            refine lv_aload_n hx hb dM_add_38 rfl (lv_at hl 0 rfl) ?_
            refine bw_get (own := RM) (ci := 2) (C := RM) (T := TM) (N := 14) (v := .ref (ad 1)) hx hb hts inM hown hE hP 0 (by decide) rfl rfl 2 (by decide) w_318 rfl rfl dM_add_39 ?_
            refine lv_aload_n hx hb dM_add_42 rfl (lv_at hl 0 rfl) ?_
            refine bw_get (own := RM) (ci := 2) (C := RM) (T := TM) (N := 14) (v := .int ((M_1 0).1 1)) hx hb hts inM hown hE hP 0 (by decide) rfl rfl 1 (by decide) w_317 rfl rfl dM_add_43 ?_
            refine ln_asi (nI (aN A)) (by exact hN1 _ eM_1) ?_
            refine lv_iload_n hx hb dM_add_46 rfl (lv_at hl 1 rfl) ?_
            refine ln_iast (L := 48) hx hb hE hI hP hS 1 0 (by decide) (rfl) rfl (by omega) (by decide) ((upd (M_1 1).1 (aN A) q, (M_1 1).2)) (rfl) dM_add_47 (fun M_2 H locs eM_2 hP hS => ?_)
            refine lv_aload_n hx hb dM_add_48 rfl (lv_at hl 0 rfl) ?_
            refine bw_get (own := RM) (ci := 2) (C := RM) (T := TM) (N := 14) (v := .ref (ad 2)) hx hb hts inM hown hE hP 0 (by decide) rfl rfl 3 (by decide) w_319 rfl rfl dM_add_49 ?_
            refine lv_aload_n hx hb dM_add_52 rfl (lv_at hl 0 rfl) ?_
            refine bw_get (own := RM) (ci := 2) (C := RM) (T := TM) (N := 14) (v := .int ((M_2 0).1 1)) hx hb hts inM hown hE hP 0 (by decide) rfl rfl 1 (by decide) w_317 rfl rfl dM_add_53 ?_
            refine ln_asi (nI (aN A)) (by rw [eM_2, va_up_ne _ _ (by decide)]; exact hN1 _ eM_1) ?_
            refine lv_iload_n hx hb dM_add_56 rfl (lv_at hl 2 rfl) ?_
            refine ln_iast (L := 48) hx hb hE hI hP hS 2 0 (by decide) (rfl) rfl (by omega) (by decide) ((upd (M_2 2).1 (aN A) k, (M_2 2).2)) (rfl) dM_add_57 (fun M_3 H locs eM_3 hP hS => ?_)
            refine lv_aload_n hx hb dM_add_58 rfl (lv_at hl 0 rfl) ?_
            refine bw_get (own := RM) (ci := 2) (C := RM) (T := TM) (N := 14) (v := .ref (ad 3)) hx hb hts inM hown hE hP 0 (by decide) rfl rfl 4 (by decide) w_320 rfl rfl dM_add_59 ?_
            refine lv_aload_n hx hb dM_add_62 rfl (lv_at hl 0 rfl) ?_
            refine bw_get (own := RM) (ci := 2) (C := RM) (T := TM) (N := 14) (v := .int ((M_3 0).1 1)) hx hb hts inM hown hE hP 0 (by decide) rfl rfl 1 (by decide) w_317 rfl rfl dM_add_63 ?_
            refine ln_asi (nI (aN A)) (by rw [eM_3, va_up_ne _ _ (by decide), eM_2, va_up_ne _ _ (by decide)]; exact hN1 _ eM_1) ?_
            refine lv_iconst (v := nI 0) hx hb dM_add_66 (by decide) ?_
            refine ln_zast (L := 48) hx hb hE hI hP hS 3 1 (by decide) (rfl) rfl (by omega) (by decide) ((upd (M_3 3).1 (aN A) (vp_nar .boolean (nI 0)), (M_3 3).2)) (rfl) dM_add_67 (fun M_4 H locs eM_4 hP hS => ?_)
            refine lv_iconst (v := nI 0) hx hb dM_add_68 (by decide) ?_
            refine lv_istore_n (lv' := [(3, .int (nI 0)), (0, .ref (ad 0)), (1, .int q), (2, .int k)]) hx hb dM_add_69 rfl hl (by decide) rfl (fun ls hl => ?_)
            have loop : ∀ kf : Nat, (∀ (i : Nat)  (M1 : Nat → mRow) (H : Heap) (locs : List Loc) (ls : Array Slot), i ≤ 9 → nInv M_4 M1 (aN A) i → 9 - i < kf → va_P D cls3 (bw ad 13 (fun j => mc_cell cs ad j (M1 j))) H → va_S (bw_A ad 13 s.heap.size) s.heap H locs → lv_has ls 4 [(3, .int (nI i)), (0, .ref (ad 0)), (1, .int q), (2, .int k)] → W p l e (headSpec (wc yM_add cM_add 4 (some .int)) ({ frames := 0, cells := 0, slots := 0, locals := 0 } : Room)).room s m ([.ref (ad 0), .int q, .int k] : List Value).toArray below meth c H locs 0 0 (MQ below (bQi D ad 13 (mc_cell cs ad) s.heap.size (fun r M1 => (r = nI (aN A) ∧ pAdd A q k ∧ Ref (addA A q k) M1) ∨ (r = (-1) ∧ ¬ pAdd A q k ∧ Ref A M1))) ([.ref (ad 0), .int q, .int k] : List Value).toArray s 0 0 (bw_A ad 13 s.heap.size)) (F0 m 70 ls [])) := by
              intro kf
              induction kf with
              | zero => exact by intros; omega
              | succ kf ih =>
                intro i  M1 H locs ls hi hinv hmu hP hS hl
                refine lv_iload_n hx hb dM_add_70 rfl (lv_at hl 0 rfl) ?_
                refine lv_bipush (v := nI 9) hx hb dM_add_71 (by decide) ?_
                refine ln_icmp_ge (tgt := 108) hx hb dM_add_73 (by decide) (by omega) (by omega) (fun c_73 => ?_) (fun c_73 => ?_)
                · skip
                  refine lv_aload_n hx hb dM_add_108 rfl (lv_at hl 1 rfl) ?_
                  refine lv_dup hx hb dM_add_109 rfl ?_
                  refine bw_get (own := RM) (ci := 2) (C := RM) (T := TM) (N := 14) (v := .int ((M1 0).1 1)) hx hb hts inM hown hE hP 0 (by decide) rfl rfl 1 (by decide) w_317 rfl rfl dM_add_110 ?_
                  refine ln_asi (nI (aN A)) (by rw [hinv.1 0 (by decide), eM_4, va_up_ne _ _ (by decide), eM_3, va_up_ne _ _ (by decide), eM_2, va_up_ne _ _ (by decide)]; exact hN1 _ eM_1) ?_
                  refine lv_iconst (v := nI 1) hx hb dM_add_113 (by decide) ?_
                  refine ln_iadd hx hb dM_add_114 ?_
                  refine bw_put (own := RM) (ci := 2) (C := RM) (T := TM) (N := 14) (v := .int (nI ((aN A) + 1))) (ty := .int) hx hb hts inM tyM tyM_ok nmM hown hE hI hP hS 0 (by decide) rfl rfl 1 (by decide) w_317 rfl rfl ((upd (M1 0).1 1 (nI ((aN A) + 1)), (M1 0).2)) rfl (by decide +kernel) rfl rfl (Nat.le_of_ble_eq_true rfl) dM_add_115 (fun M_5 H locs eM_5 hP hS => ?_)
                  refine lv_aload_n hx hb dM_add_118 rfl (lv_at hl 1 rfl) ?_
                  refine bw_get (own := RM) (ci := 2) (C := RM) (T := TM) (N := 14) (v := .int ((M_5 0).1 1)) hx hb hts inM hown hE hP 0 (by decide) rfl rfl 1 (by decide) w_317 rfl rfl dM_add_119 ?_
                  refine ln_asi (nI (aN A + 1)) (by rw [eM_5, va_up_self]; exact m_us) ?_
                  refine lv_iconst (v := nI 1) hx hb dM_add_122 (by decide) ?_
                  refine ln_isub hx hb dM_add_123 (by omega) ?_
                  exact W.iret (v := nI ((aN A + 1) - 1)) hx hb hr (fun t ht hW => ⟨⟨_, M_5, rfl, Or.inl ⟨by rw [Nat.add_sub_cancel], hp9, (hC.thr eM_1).add hN9 eM_2 eM_3 eM_4 (show nInv M_4 M1 (aN A) 9 by have hi9 : i = 9 := (by omega); rw [hi9] at hinv; exact hinv) eM_5⟩, by show va_P _ _ _ t.heap; rw [ht]; exact hP⟩, hS.F ht⟩) hS.2.2 dM_add_124
                · skip
                  refine lv_aload_n hx hb dM_add_76 rfl (lv_at hl 1 rfl) ?_
                  refine bw_get (own := RM) (ci := 2) (C := RM) (T := TM) (N := 14) (v := .ref (ad 4)) hx hb hts inM hown hE hP 0 (by decide) rfl rfl 5 (by decide) w_321 rfl rfl dM_add_77 ?_
                  refine lv_bipush (v := nI 9) hx hb dM_add_80 (by decide) ?_
                  refine lv_aload_n hx hb dM_add_82 rfl (lv_at hl 1 rfl) ?_
                  refine bw_get (own := RM) (ci := 2) (C := RM) (T := TM) (N := 14) (v := .int ((M1 0).1 1)) hx hb hts inM hown hE hP 0 (by decide) rfl rfl 1 (by decide) w_317 rfl rfl dM_add_83 ?_
                  refine ln_asi (nI (aN A)) (by rw [hinv.1 0 (by decide), eM_4, va_up_ne _ _ (by decide), eM_3, va_up_ne _ _ (by decide), eM_2, va_up_ne _ _ (by decide)]; exact hN1 _ eM_1) ?_
                  refine ln_imul hx hb dM_add_86 ?_
                  refine lv_iload_n hx hb dM_add_87 rfl (lv_at hl 0 rfl) ?_
                  refine ln_iadd hx hb dM_add_88 ?_
                  refine lv_iload_n hx hb dM_add_89 rfl (lv_at hl 0 rfl) ?_
                  refine lv_bipush (v := nI 6) hx hb dM_add_90 (by decide) ?_
                  refine ln_icmp_ge (tgt := 99) hx hb dM_add_92 (by decide) (by omega) (by omega) (fun c_92 => ?_) (fun c_92 => ?_)
                  · skip
                    refine lv_ldc (own := RM) (index := 55) (v := 65536) hx hb hown (hts _ w_368) dM_add_99 ?_
                    refine ln_asi (if i < 6 then 0 else 65536) (by rw [if_neg (by omega)]) ?_
                    refine ln_iast (L := 441) hx hb hE hI hP hS 4 0 (by decide) (rfl) rfl (by omega) (by decide) ((upd (M1 4).1 ((9 * (aN A)) + i) (if i < 6 then 0 else 65536), (M1 4).2)) (rfl) dM_add_101 (fun M_6 H locs eM_6 hP hS => ?_)
                    refine lv_iinc (v := nI (i + 1)) (lv' := [(3, .int (nI (i + 1))), (0, .ref (ad 0)), (1, .int q), (2, .int k)]) hx hb dM_add_102 hl (k := 0) rfl (nI_add i 1) (by decide) rfl (fun ls hl => ?_)
                    refine lv_goto (tgt := 70) hx hb dM_add_105 (by decide) ?_
                    exact ih (i + 1)  M_6 H locs ls (by omega) (hinv.step eM_6 rfl) (by omega) hP hS (lv_sub hl [0, 1, 2, 3] rfl)
                  · skip
                    refine lv_iconst (v := nI 0) hx hb dM_add_95 (by decide) ?_
                    refine lv_goto (tgt := 101) hx hb dM_add_96 (by decide) ?_
                    refine ln_asi (if i < 6 then 0 else 65536) (by rw [if_pos c_92]; rfl) ?_
                    refine ln_iast (L := 441) hx hb hE hI hP hS 4 0 (by decide) (rfl) rfl (by omega) (by decide) ((upd (M1 4).1 ((9 * (aN A)) + i) (if i < 6 then 0 else 65536), (M1 4).2)) (rfl) dM_add_101 (fun M_7 H locs eM_7 hP hS => ?_)
                    refine lv_iinc (v := nI (i + 1)) (lv' := [(3, .int (nI (i + 1))), (0, .ref (ad 0)), (1, .int q), (2, .int k)]) hx hb dM_add_102 hl (k := 0) rfl (nI_add i 1) (by decide) rfl (fun ls hl => ?_)
                    refine lv_goto (tgt := 70) hx hb dM_add_105 (by decide) ?_
                    exact ih (i + 1)  M_7 H locs ls (by omega) (hinv.step eM_7 rfl) (by omega) hP hS (lv_sub hl [0, 1, 2, 3] rfl)
            exact (loop 100000) 0  M_4 H locs ls (by omega) (⟨fun _ _ => rfl, fun _ _ => rfl, fun j hj => by omega⟩) (by omega) hP hS (lv_sub hl [0, 1, 2, 3] rfl)
          · skip
            refine lv_iconst (v := (-1)) hx hb dM_add_36 (by decide) ?_
            exact W.iret (v := (-1)) hx hb hr (fun t ht hW => ⟨⟨_, M_1, rfl, Or.inr ⟨rfl, fun h9 => by have := h9.2.2.2; simp only [Int32.lt_iff_toInt_lt, Int32.le_iff_toInt_le, nI, Int32.reduceOfNat, Int32.reduceToInt] at c_33 this; omega, hC.thr eM_1⟩, by show va_P _ _ _ t.heap; rw [ht]; exact hP⟩, hS.F ht⟩) hS.2.2 dM_add_37
end
section
/-! ARITHMETIC: what the class works out in ints, the reference in longs -/
theorem l_back {x : Int64} (h1 : -2147483648 ≤ x.toInt) (h2 : x.toInt < 2147483648) : x.toInt32.toInt64 = x := by
  apply Int64.toInt_inj.mp
  rw [Int32.toInt_toInt64, Int64.toInt_toInt32]
  exact Int.bmod_eq_of_le (by omega) (by omega)
theorem jcl_rng (v : Int64) : -16777216 ≤ (jcl v).toInt ∧ (jcl v).toInt ≤ 16777216 := by
  have e1 : (16777216 : Int64).toInt = 16777216 := by decide
  have e2 : (-16777216 : Int64).toInt = -16777216 := by decide
  unfold jcl jmin
  by_cases c1 : v < 16777216
  · rw [if_pos c1]
    by_cases c2 : v < -16777216
    · rw [if_pos c2, e2]; omega
    · rw [if_neg c2]
      rw [Int64.lt_iff_toInt_lt, e1] at c1
      rw [Int64.lt_iff_toInt_lt, e2] at c2
      omega
  · rw [if_neg c1, if_neg (by decide), e1]; omega
theorem jcl_back (v : Int64) : (jcl v).toInt32.toInt64 = jcl v := by
  have := jcl_rng v
  exact l_back (by omega) (by omega)
theorem jcl_lo {v : Int64} (h : ¬ 0 ≤ lg_cmp v (-16777216)) : (-16777216 : Int64) = jcl v := by
  have e1 : (16777216 : Int64).toInt = 16777216 := by decide
  have e2 : (-16777216 : Int64).toInt = -16777216 := by decide
  rw [lg_cmp_ge, Int64.le_iff_toInt_le, e2] at h
  have c1 : v < 16777216 := by rw [Int64.lt_iff_toInt_lt, e1]; omega
  have c2 : v < -16777216 := by rw [Int64.lt_iff_toInt_lt, e2]; omega
  unfold jcl jmin
  rw [if_pos c1, if_pos c2]
theorem jcl_hi {v : Int64} (h : ¬ lg_cmp v 16777216 ≤ 0) : (16777216 : Int64) = jcl v := by
  have e1 : (16777216 : Int64).toInt = 16777216 := by decide
  rw [lg_cmp_le, Int64.le_iff_toInt_le, e1] at h
  have c1 : ¬ v < 16777216 := by rw [Int64.lt_iff_toInt_lt, e1]; omega
  unfold jcl jmin
  rw [if_neg c1, if_neg (by decide)]
theorem jcl_in {v : Int64} (h1 : 0 ≤ lg_cmp v (-16777216)) (h2 : lg_cmp v 16777216 ≤ 0) : v = jcl v := by
  have e1 : (16777216 : Int64).toInt = 16777216 := by decide
  have e2 : (-16777216 : Int64).toInt = -16777216 := by decide
  rw [lg_cmp_ge, Int64.le_iff_toInt_le, e2] at h1
  rw [lg_cmp_le, Int64.le_iff_toInt_le, e1] at h2
  unfold jcl jmin
  by_cases c1 : v < 16777216
  · have c2 : ¬ v < -16777216 := by rw [Int64.lt_iff_toInt_lt, e2]; omega
    rw [if_pos c1, if_neg c2]
  · rw [if_neg c1, if_neg (by decide)]
    rw [Int64.lt_iff_toInt_lt, e1] at c1
    exact Int64.toInt_inj.mp (by omega)
theorem dxor {P Q R : Prop} [Decidable P] [Decidable Q] [Decidable R] (h : decide P = (decide Q ^^ decide R)) : P ↔ ¬ (Q ↔ R) := by
  by_cases q : Q <;> by_cases r : R <;> by_cases p : P <;> simp_all
theorem xor32 (x y : Int32) : (x ^^^ y).toInt < 0 ↔ ¬ (x.toInt < 0 ↔ y.toInt < 0) := by
  have h : decide ((x ^^^ y).toBitVec.toInt < 0) = (decide (x.toBitVec.toInt < 0) ^^ decide (y.toBitVec.toInt < 0)) := by
    rw [← BitVec.msb_eq_toInt, ← BitVec.msb_eq_toInt, ← BitVec.msb_eq_toInt, Int32.toBitVec_xor, BitVec.msb_xor]
  exact dxor h
theorem xor64 (x y : Int64) : (x ^^^ y).toInt < 0 ↔ ¬ (x.toInt < 0 ↔ y.toInt < 0) := by
  have h : decide ((x ^^^ y).toBitVec.toInt < 0) = (decide (x.toBitVec.toInt < 0) ^^ decide (y.toBitVec.toInt < 0)) := by
    rw [← BitVec.msb_eq_toInt, ← BitVec.msb_eq_toInt, ← BitVec.msb_eq_toInt, Int64.toBitVec_xor, BitVec.msb_xor]
  exact dxor h
/-- k modulo 4096 -/
def jn0 (k : Int32) : Nat := (k.toInt % 4096).toNat
theorem jn0_lt (k : Int32) : jn0 k < 4096 := by unfold jn0; omega
theorem rem_pos {a : Nat} (ha : a < 2147483648) : nI a - nI a / nI 4096 * nI 4096 = nI (a % 4096) := pk_rem ha (by decide) (by decide)
theorem rem_neg {k : Int32} {a : Nat} (hk : k.toInt = -(a : Int)) (ha : a ≤ 2147483648) : k - k / nI 4096 * nI 4096 = -nI (a % 4096) := by
  have e4 : (nI 4096).toInt = 4096 := by decide
  have h1 : (k / nI 4096).toInt = -((a / 4096 : Nat) : Int) := by
    rw [Int32.toInt_div, hk, e4, Int.neg_tdiv, Int.tdiv_eq_ediv_of_nonneg (by omega), Int.bmod_eq_of_le (by omega) (by omega)]
    omega
  have h2 : (k / nI 4096 * nI 4096).toInt = -((a / 4096 * 4096 : Nat) : Int) := by
    rw [Int32.toInt_mul, h1, e4, Int.bmod_eq_of_le (by omega) (by omega)]
    omega
  apply Int32.toInt_inj.mp
  rw [Int32.toInt_sub, hk, h2, sb_negT (by omega), Int.bmod_eq_of_le (by omega) (by omega)]
  omega
theorem i32_cases (k : Int32) : (∃ a : Nat, a < 2147483648 ∧ k = nI a) ∨ ∃ a : Nat, 0 < a ∧ a ≤ 2147483648 ∧ k.toInt = -(a : Int) := by
  have h1 := Int32.le_toInt k
  have h2 := Int32.toInt_lt k
  by_cases c : k.toInt < 0
  · exact Or.inr ⟨(-k.toInt).toNat, by omega, by omega, by omega⟩
  · refine Or.inl ⟨k.toInt.toNat, by omega, Int32.toInt_inj.mp ?_⟩
    rw [nI_toInt (by omega)]
    omega
theorem neg_add {b : Nat} (hb : b < 4096) : -nI b + nI 4096 = nI (4096 - b) := by
  rw [Int32.add_comm, ← Int32.sub_eq_add_neg, pk_sub (by omega)]
theorem jang_val (k : Int32) : jang k = nI (jn0 k) := by
  have e4 : (nI 4096).toInt = 4096 := by decide
  have e0 : (0 : Int32).toInt = 0 := by decide
  unfold jang jfm
  rcases i32_cases k with ⟨a, ha, rfl⟩ | ⟨a, h0, ha, hk⟩
  · have hx : 0 ≤ nI a ^^^ nI 4096 := by
      have := xor32 (nI a) (nI 4096)
      rw [nI_toInt ha, e4] at this
      rw [Int32.le_iff_toInt_le, e0]
      omega
    rw [if_pos hx, rem_pos ha]
    unfold jn0
    rw [nI_toInt ha]
    exact congrArg nI (by omega)
  · have hx : ¬ 0 ≤ k ^^^ nI 4096 := by
      have := xor32 k (nI 4096)
      rw [hk, e4] at this
      rw [Int32.le_iff_toInt_le, e0]
      omega
    rw [if_neg hx, rem_neg hk ha]
    unfold jn0
    rw [hk]
    by_cases c : a % 4096 = 0
    · rw [c, if_pos (by decide)]
      have : (-(a : Int) % 4096).toNat = 0 := by omega
      rw [this]; decide
    · have hne : ¬ -nI (a % 4096) = 0 := by
        intro q
        have := congrArg Int32.toInt q
        rw [sb_negT (by omega), e0] at this
        omega
      rw [if_neg hne, neg_add (by omega)]
      exact congrArg nI (by omega)
theorem rem2_val (k : Int32) : (k - k / nI 4096 * nI 4096 + nI 4096) - (k - k / nI 4096 * nI 4096 + nI 4096) / nI 4096 * nI 4096 = nI (jn0 k) := by
  rcases i32_cases k with ⟨a, ha, rfl⟩ | ⟨a, h0, ha, hk⟩
  · rw [rem_pos ha, nI_add, rem_pos (by omega)]
    unfold jn0
    rw [nI_toInt ha]
    exact congrArg nI (by omega)
  · rw [rem_neg hk ha, neg_add (by omega), rem_pos (by omega)]
    unfold jn0
    rw [hk]
    exact congrArg nI (by omega)
def jq (n : Nat) : Nat := n % 2048 * (2048 - n % 2048)
def js (n : Nat) : Nat := 1048576 * jq n / (20971520 - 4 * jq n)
theorem jq_le (n : Nat) : jq n ≤ 4194304 := Nat.le_trans (Nat.mul_le_mul (show n % 2048 ≤ 2048 by omega) (show 2048 - n % 2048 ≤ 2048 by omega)) (by decide)
theorem js_le (n : Nat) : js n ≤ 1048576 := by
  have := jq_le n
  unfold js
  apply Nat.div_le_of_le_mul
  omega
theorem jp_val {n : Nat} (hn : n < 4096) : jp (jhalf (nI n)) = lN (jq n) := by
  have hh : jhalf (nI n) = nI (n % 2048) := by
    unfold jhalf
    by_cases c : 2048 ≤ n
    · rw [if_pos ((nI_leI (by decide) (by omega)).mpr c), pk_sub c]
      exact congrArg nI (by omega)
    · rw [if_neg (fun q => c ((nI_leI (by decide) (by omega)).mp q))]
      exact congrArg nI (by omega)
  rw [hh]
  unfold jp
  rw [pk_sub (by omega), nI_l (by omega), nI_l (by omega), lN_mul]
  rfl
theorem jdv_val (n : Nat) : jdv (lN (jq n)) = lN (20971520 - 4 * jq n) := by
  have := jq_le n
  unfold jdv
  show lN 20971520 - lN 4 * lN (jq n) = _
  rw [lN_mul, lN_sub (by omega)]
theorem jht_val (n : Nat) : jht (lN (jq n)) = lN (js n) := by
  have h := jq_le n
  unfold jht
  rw [jdv_val]
  have h0 : ¬ lg_cmp (lN (20971520 - 4 * jq n)) 0 ≤ 0 := by
    rw [lg_cmp_le]
    show ¬ lN (20971520 - 4 * jq n) ≤ lN 0
    rw [pk_lLE (by omega) (by decide)]
    omega
  rw [if_neg h0]
  show jfd (lN 1048576 * lN (jq n)) _ = _
  rw [lN_mul]
  unfold jfd
  have hx : 0 ≤ lg_cmp (lN (1048576 * jq n) ^^^ lN (20971520 - 4 * jq n)) 0 := by
    rw [lg_cmp_ge, Int64.le_iff_toInt_le]
    have e0 : (0 : Int64).toInt = 0 := by decide
    have := xor64 (lN (1048576 * jq n)) (lN (20971520 - 4 * jq n))
    rw [pk_lT (by omega), pk_lT (by omega)] at this
    rw [e0]
    omega
  rw [if_pos hx, pk_lDiv (by omega) (by omega) (by omega)]
  rfl
theorem lN_small {n : Nat} (h : n ≤ 1048576) : (lN n).toInt32.toInt64 = lN n ∧ (-lN n).toInt32.toInt64 = -lN n := by
  have e : (lN n).toInt = n := pk_lT (by omega)
  have e2 : (-lN n).toInt = -(n : Int) := by rw [Int64.toInt_neg, e]; exact Int.bmod_eq_of_le (by omega) (by omega)
  exact ⟨l_back (by omega) (by omega), l_back (by omega) (by omega)⟩
theorem jsin_val (k : Int32) : (jsin k).toInt64 = if 2048 ≤ jn0 k then -lN (js (jn0 k)) else lN (js (jn0 k)) := by
  have hn := jn0_lt k
  have hs := js_le (jn0 k)
  unfold jsin
  rw [jang_val, jp_val hn, jht_val]
  unfold jsg
  by_cases c : 2048 ≤ jn0 k
  · rw [if_pos ((nI_leI (by decide) (by omega)).mpr c), if_pos c]
    exact (lN_small hs).2
  · rw [if_neg (fun q => c ((nI_leI (by decide) (by omega)).mp q)), if_neg c]
    exact (lN_small hs).1
theorem neg_back (x : Int32) (h : -1048576 ≤ x.toInt) : (-x).toInt64 = -x.toInt64 := by
  have h2 := Int32.toInt_lt x
  apply Int64.toInt_inj.mp
  rw [Int32.toInt_toInt64, Int32.toInt_neg, Int64.toInt_neg, Int32.toInt_toInt64, Int.bmod_eq_of_le (by omega) (by omega), Int.bmod_eq_of_le (by omega) (by omega)]
theorem jsin_rng (k : Int32) : -1048576 ≤ (jsin k).toInt := by
  have h := jsin_val k
  have hs := js_le (jn0 k)
  have e : (lN (js (jn0 k))).toInt = js (jn0 k) := pk_lT (by omega)
  have h1 : (jsin k).toInt = (jsin k).toInt64.toInt := (Int32.toInt_toInt64 _).symm
  rw [h1, h]
  split
  · rw [Int64.toInt_neg, e, Int.bmod_eq_of_le (by omega) (by omega)]; omega
  · rw [e]; omega
/-- the reference's sum, in its own order -/
theorem sum_eq (a b : Nat → Int32) (i j : Nat) (hj : j < 4) : (if j = 3 then (a (4 * i + 3)).toInt64 else 0) + jmul (a (4 * i + 0)).toInt64 (b (4 * 0 + j)).toInt64 + jmul (a (4 * i + 1)).toInt64 (b (4 * 1 + j)).toInt64 + jmul (a (4 * i + 2)).toInt64 (b (4 * 2 + j)).toInt64 = if j = 3 then jsum a b i j + (a (4 * i + 3)).toInt64 else jsum a b i j := by
  unfold jsum
  rw [show 4 * 0 + j = j by omega, show 4 * 1 + j = 4 + j by omega, show 4 * 2 + j = 8 + j by omega, show 4 * i + 0 = 4 * i by omega]
  by_cases c : j = 3
  · rw [if_pos c, if_pos c]
    ac_rfl
  · rw [if_neg c, if_neg c, Int64.zero_add]
end
section
/-! THE REFERENCE'S MATRICES: longs that are the class's ints -/
def lm (r : mRow) (f : Nat → Int32) : Prop := ∀ t, t < 12 → r.2 t = (f t).toInt64
theorem i_back (x : Int32) : x.toInt64.toInt32 = x := by
  have h1 := Int32.le_toInt x
  have h2 := Int32.toInt_lt x
  apply Int32.toInt_inj.mp
  rw [Int64.toInt_toInt32, Int32.toInt_toInt64]
  exact Int.bmod_eq_of_le (by omega) (by omega)
theorem l_us {f : Nat → Int32} {g : Nat → Int64} {k : Nat} {x : Int64} : ((f, vp_updL g k x) : mRow).2 k = x := pk_uLs
theorem l_un {f : Nat → Int32} {g : Nat → Int64} {k j : Nat} {x : Int64} (h : j ≠ k) : ((f, vp_updL g k x) : mRow).2 j = g j := pk_uLn h
def jacc (a b : Nat → Int32) (i j : Nat) : Nat → Int64
  | 0 => if j = 3 then (a (4 * i + 3)).toInt64 else 0
  | k + 1 => jacc a b i j k + jmul (a (4 * i + k)).toInt64 (b (4 * k + j)).toInt64
theorem jacc_prod (a b : Nat → Int32) (i : Nat) {j : Nat} (hj : j < 4) : jcl (jacc a b i j 3) = (jprod a b i j).toInt64 := by
  unfold jprod
  rw [jcl_back, ← sum_eq a b i j hj]
  rfl
/-- the matrix at place k filled up to t, all else as it was -/
def lfill (M0 M1 : Nat → mRow) (k t : Nat) (F : Nat → Nat → Int32) : Prop := (∀ q, q ≠ k → M1 q = M0 q) ∧ ∀ a b, a < 3 → b < 4 → 4 * a + b < t → (M1 k).2 (4 * a + b) = (F a b).toInt64
theorem lfill.zero {M : Nat → mRow} {k : Nat} {F : Nat → Nat → Int32} : lfill M M k 0 F := ⟨fun _ _ => rfl, fun a b _ _ h => by omega⟩
theorem lfill.le {M0 M1 : Nat → mRow} {k t t' : Nat} {F : Nat → Nat → Int32} (h : lfill M0 M1 k t F) (ht : t' ≤ t) : lfill M0 M1 k t' F := ⟨h.1, fun a b h1 h2 h3 => h.2 a b h1 h2 (by omega)⟩
theorem lfill.step {M0 M1 M2 : Nat → mRow} {k i j : Nat} {r : Int64} {F : Nat → Nat → Int32} (h : lfill M0 M1 k (4 * i + j) F) (e : M2 = va_up M1 k ((M1 k).1, vp_updL (M1 k).2 (4 * i + j) r)) (hr : r = (F i j).toInt64) (hj : j < 4) : lfill M0 M2 k (4 * i + (j + 1)) F := by
  subst e
  refine ⟨fun q hq => by rw [va_up_ne _ _ hq]; exact h.1 q hq, fun a b h1 h2 h3 => ?_⟩
  rw [va_up_self]
  by_cases hq : 4 * a + b = 4 * i + j
  · have h4 : a = i ∧ b = j := by omega
    obtain ⟨rfl, rfl⟩ := h4
    rw [l_us, hr]
  · rw [l_un hq]
    exact h.2 a b h1 h2 (by omega)
theorem lfill.done {M0 M1 : Nat → mRow} {k : Nat} {F : Nat → Nat → Int32} (h : lfill M0 M1 k 12 F) : lm (M1 k) (fun t => F (t / 4) (t % 4)) := by
  intro t ht
  have ht2 : t = 4 * (t / 4) + t % 4 := by omega
  have := h.2 (t / 4) (t % 4) (by omega) (by omega) (by omega)
  rw [← ht2] at this
  exact this
abbrev lc12 (cs : Nat → ClassId) (ad : Nat → Nat) (k : Nat) : Prop := ∀ r : mRow, mc_cell cs ad k r = .inl (cs 3, 12, .inr (.inl r.2))
/-- a copy of the longs of ka at kb, i of them -/
def cInv (M M1 : Nat → mRow) (ka kb i : Nat) : Prop := (∀ q, q ≠ kb → M1 q = M q) ∧ ∀ t, t < i → (M1 kb).2 t = (M ka).2 t
theorem cInv.step {M M1 M2 : Nat → mRow} {ka kb i : Nat} (h : cInv M M1 ka kb i) (hne : ka ≠ kb) (e : M2 = va_up M1 kb ((M1 kb).1, vp_updL (M1 kb).2 i ((M1 ka).2 i))) : cInv M M2 ka kb (i + 1) := by
  subst e
  refine ⟨fun q hq => by rw [va_up_ne _ _ hq]; exact h.1 q hq, fun t ht => ?_⟩
  rw [va_up_self]
  by_cases c : t = i
  · subst c; rw [l_us, h.1 ka hne]
  · rw [l_un c]; exact h.2 t (by omega)
theorem cInv.lm {M M1 : Nat → mRow} {ka kb : Nat} {f : Nat → Int32} (h : cInv M M1 ka kb 12) (hf : lm (M ka) f) : lm (M1 kb) f := fun t ht => (h.2 t ht).trans (hf t ht)
def dInv (M M1 : Nat → mRow) (k i : Nat) : Prop := (∀ q, q ≠ k → M1 q = M q) ∧ ∀ t, t < i → (M1 k).2 t = if t % 5 = 0 then 65536 else 0
theorem dInv.step {M M1 M2 : Nat → mRow} {k i : Nat} {x : Int64} (h : dInv M M1 k i) (e : M2 = va_up M1 k ((M1 k).1, vp_updL (M1 k).2 i x)) (hx : x = if i % 5 = 0 then 65536 else 0) : dInv M M2 k (i + 1) := by
  subst e
  refine ⟨fun q hq => by rw [va_up_ne _ _ hq]; exact h.1 q hq, fun t ht => ?_⟩
  rw [va_up_self]
  by_cases c : t = i
  · subst c; rw [l_us, hx]
  · rw [l_un c]; exact h.2 t (by omega)
theorem axis_done {M M1 M2 M3 M4 M5 : Nat → mRow} {k p q : Nat} {a : Int32} (hpq : (p = 1 ∧ q = 2) ∨ (p = 2 ∧ q = 0) ∨ (p = 0 ∧ q = 1)) (h : dInv M M1 k 12) (e2 : M2 = va_up M1 k ((M1 k).1, vp_updL (M1 k).2 (4 * p + p) (jsin (a + nI 1024)).toInt64)) (e3 : M3 = va_up M2 k ((M2 k).1, vp_updL (M2 k).2 (4 * p + q) (-(jsin a).toInt64))) (e4 : M4 = va_up M3 k ((M3 k).1, vp_updL (M3 k).2 (4 * q + p) (jsin a).toInt64)) (e5 : M5 = va_up M4 k ((M4 k).1, vp_updL (M4 k).2 (4 * q + q) (jsin (a + nI 1024)).toInt64)) : (∀ x, x ≠ k → M5 x = M x) ∧ lm (M5 k) (jspin (fun _ => 0) p q a) := by
  refine ⟨fun x hx => by rw [e5, va_up_ne _ _ hx, e4, va_up_ne _ _ hx, e3, va_up_ne _ _ hx, e2, va_up_ne _ _ hx]; exact h.1 x hx, fun t ht => ?_⟩
  have key : (M5 k).2 t = vp_updL (vp_updL (vp_updL (vp_updL (M1 k).2 (4 * p + p) (jsin (a + nI 1024)).toInt64) (4 * p + q) (-(jsin a).toInt64)) (4 * q + p) (jsin a).toInt64) (4 * q + q) (jsin (a + nI 1024)).toInt64 t := by
    rw [e5, va_up_self, e4, va_up_self, e3, va_up_self, e2, va_up_self]
  rw [key]
  unfold jspin
  have hd := h.2 t ht
  by_cases c5 : t = 4 * q + q
  · subst c5; rw [pk_uLs, pk_us]
  rw [pk_uLn c5, pk_un c5]
  by_cases c4 : t = 4 * q + p
  · subst c4; rw [pk_uLs, pk_us]
  rw [pk_uLn c4, pk_un c4]
  by_cases c3 : t = 4 * p + q
  · subst c3; rw [pk_uLs, pk_us]; exact (neg_back _ (jsin_rng a)).symm
  rw [pk_uLn c3, pk_un c3]
  by_cases c2 : t = 4 * p + p
  · subst c2; rw [pk_uLs, pk_us]
  rw [pk_uLn c2, pk_un c2, hd]
  by_cases c1 : t = 4 * (3 - p - q) + (3 - p - q)
  · rw [if_pos (by omega), c1, pk_us]; rfl
  · rw [if_neg (by omega), pk_un c1]; rfl
theorem nI_z {x : Nat} (h : x < 2147483648) : nI x = 0 ↔ x = 0 := by
  rw [← nI_eq h (by decide : 0 < 2147483648)]; rfl

set_option maxHeartbeats 4000000 in
set_option maxRecDepth 100000 in
theorem kM_bound (l : Launch) (v : Int64) : Met l yM_bound (wc yM_bound cM_bound 2 (some .long)) ({ frames := 0, cells := 0, slots := 0, locals := 0 } : Room) (va_Pc [.long v] (fun _ => True)) (vp_Sl (fun r => r = jcl v)) 0 0 (fun _ => False) := by
  refine Met.ofW (cc := cM_bound) (maxL := 2) (ret := (some .long)) (by decide +kernel) rfl ?_
  intro p e s m args below meth c s₁ B hml hv
  obtain ⟨rfl, -⟩ := hv
  have hx := B.exec
  have hb := B.bytes
  have hr := B.returns
  have hts : ∀ w9 ∈ ws_all, w9.before ([.long v] : List Value).toArray s = true := fun w9 h => atoms_spec (ws := (wc yM_bound cM_bound 2 (some .long))) B.pre w9 (List.mem_cons_of_mem _ h)
  have hown : s.vm.findClass RM = some m.cls := findClass_of_methodNamed B.named
  have hlocks := B.notSynchronized
  have hl := lv_entry ([.long v]) (n := 2) (Nat.le_of_ble_eq_true rfl)
  rw [lg_entry_eq]
  generalize (lg_sl ([.long v]) ++ List.replicate (2 - (lg_sl ([.long v])).length) Slot.unset).toArray = ls at hl ⊢
  have hl : lv_has ls 2 [(0, .long v)] := hl
  refine lv_lload_n hx hb dM_bound_0 rfl (lv_at hl 0 rfl) ?_
  refine lv_ldc2 (own := RM) (index := 70) (v := (-16777216)) hx hb hown (hts _ w_445) dM_bound_1 ?_
  refine W.lcmp hx hb dM_bound_4 ?_
  refine lv_if_ge (tgt := 14) hx hb dM_bound_5 (by decide) (fun c_5 => ?_) (fun c_5 => ?_)
  · skip
    refine lv_lload_n hx hb dM_bound_14 rfl (lv_at hl 0 rfl) ?_
    refine lv_ldc2 (own := RM) (index := 72) (v := 16777216) hx hb hown (hts _ w_446) dM_bound_15 ?_
    refine W.lcmp hx hb dM_bound_18 ?_
    refine lv_if_le (tgt := 28) hx hb dM_bound_19 (by decide) (fun c_19 => ?_) (fun c_19 => ?_)
    · skip
      refine lv_lload_n hx hb dM_bound_28 rfl (lv_at hl 0 rfl) ?_
      exact W.lret (v := v) hx hb hr (fun t ht hW => ⟨_, rfl, jcl_in c_5 c_19, ht⟩) (fun _ h => nomatch h) dM_bound_29
    · skip
      refine lv_ldc2 (own := RM) (index := 72) (v := 16777216) hx hb hown (hts _ w_446) dM_bound_22 ?_
      refine lv_goto (tgt := 29) hx hb dM_bound_25 (by decide) ?_
      exact W.lret (v := 16777216) hx hb hr (fun t ht hW => ⟨_, rfl, jcl_hi c_19, ht⟩) (fun _ h => nomatch h) dM_bound_29
  · skip
    refine lv_ldc2 (own := RM) (index := 70) (v := (-16777216)) hx hb hown (hts _ w_445) dM_bound_8 ?_
    refine lv_goto (tgt := 29) hx hb dM_bound_11 (by decide) ?_
    exact W.lret (v := (-16777216)) hx hb hr (fun t ht hW => ⟨_, rfl, jcl_lo c_5, ht⟩) (fun _ h => nomatch h) dM_bound_29

set_option maxHeartbeats 4000000 in
set_option maxRecDepth 100000 in
theorem kM_sin (l : Launch) (k : Int32) : Met l yM_sin (wc yM_sin cM_sin 6 (some .long)) ({ frames := 0, cells := 0, slots := 0, locals := 0 } : Room) (va_Pc [.int k] (fun _ => True)) (vp_Sl (fun r => r = (jsin k).toInt64)) 0 0 (fun _ => False) := by
  refine Met.ofW (cc := cM_sin) (maxL := 6) (ret := (some .long)) (by decide +kernel) rfl ?_
  intro p e s m args below meth c s₁ B hml hv
  obtain ⟨rfl, -⟩ := hv
  have hx := B.exec
  have hb := B.bytes
  have hr := B.returns
  have hts : ∀ w9 ∈ ws_all, w9.before ([.int k] : List Value).toArray s = true := fun w9 h => atoms_spec (ws := (wc yM_sin cM_sin 6 (some .long))) B.pre w9 (List.mem_cons_of_mem _ h)
  have hown : s.vm.findClass RM = some m.cls := findClass_of_methodNamed B.named
  have hlocks := B.notSynchronized
  have hl := lv_entry ([.int k]) (n := 6) (Nat.le_of_ble_eq_true rfl)
  rw [lg_entry_eq]
  generalize (lg_sl ([.int k]) ++ List.replicate (6 - (lg_sl ([.int k])).length) Slot.unset).toArray = ls at hl ⊢
  have hl : lv_has ls 6 [(0, .int k)] := hl
  have hn0 := jn0_lt k
  have hq0 := jq_le (jn0 k)
  refine lv_iload_n hx hb dM_sin_0 rfl (lv_at hl 0 rfl) ?_
  refine lv_sipush (v := nI 4096) hx hb dM_sin_1 (by decide) ?_
  refine lv_irem hx hb dM_sin_4 (by decide) ?_
  refine lv_sipush (v := nI 4096) hx hb dM_sin_5 (by decide) ?_
  refine lv_iadd hx hb dM_sin_8 ?_
  refine lv_sipush (v := nI 4096) hx hb dM_sin_9 (by decide) ?_
  refine lv_irem hx hb dM_sin_12 (by decide) ?_
  refine ln_asi (nI (jn0 k)) (by exact rem2_val k) ?_
  refine lv_istore_n (lv' := [(1, .int (nI (jn0 k))), (0, .int k)]) hx hb dM_sin_13 rfl hl (by decide) rfl (fun ls hl => ?_)
  refine lv_iload_n hx hb dM_sin_14 rfl (lv_at hl 0 rfl) ?_
  refine lv_sipush (v := nI 2048) hx hb dM_sin_15 (by decide) ?_
  refine lv_irem hx hb dM_sin_18 (by decide) ?_
  refine ln_asi (nI (jn0 k % 2048)) (by exact pk_rem (by omega) (by decide) (by decide)) ?_
  refine lv_i2l (v := (nI (jn0 k % 2048)).toInt64) hx hb dM_sin_19 rfl ?_
  refine lv_sipush (v := nI 2048) hx hb dM_sin_20 (by decide) ?_
  refine lv_iload_n hx hb dM_sin_23 rfl (lv_at hl 0 rfl) ?_
  refine lv_sipush (v := nI 2048) hx hb dM_sin_24 (by decide) ?_
  refine lv_irem hx hb dM_sin_27 (by decide) ?_
  refine ln_asi (nI (jn0 k % 2048)) (by exact pk_rem (by omega) (by decide) (by decide)) ?_
  refine ln_isub hx hb dM_sin_28 (by omega) ?_
  refine lv_i2l (v := (nI (2048 - (jn0 k % 2048))).toInt64) hx hb dM_sin_29 rfl ?_
  refine lv_lmul hx hb dM_sin_30 ?_
  refine ln_asl (lN (jq (jn0 k))) (by rw [nI_l (by omega), nI_l (by omega), lN_mul]; rfl) ?_
  refine lv_lstore_n (lv' := [(2, .long (lN (jq (jn0 k)))), (1, .int (nI (jn0 k))), (0, .int k)]) hx hb dM_sin_31 rfl hl (by decide) rfl (fun ls hl => ?_)
  refine lv_ldc2 (own := RM) (index := 74) (v := 1048576) hx hb hown (hts _ w_432) dM_sin_32 ?_
  refine lv_lload_n hx hb dM_sin_35 rfl (lv_at hl 0 rfl) ?_
  refine lv_lmul hx hb dM_sin_36 ?_
  refine lv_ldc2 (own := RM) (index := 76) (v := 20971520) hx hb hown (hts _ w_433) dM_sin_37 ?_
  refine lv_ldc2 (own := RM) (index := 78) (v := 4) hx hb hown (hts _ w_434) dM_sin_40 ?_
  refine lv_lload_n hx hb dM_sin_43 rfl (lv_at hl 0 rfl) ?_
  refine lv_lmul hx hb dM_sin_44 ?_
  refine lv_lsub hx hb dM_sin_45 ?_
  refine ln_asl (lN (20971520 - 4 * jq (jn0 k))) (by show lN 20971520 - lN 4 * lN (jq (jn0 k)) = _; rw [lN_mul, lN_sub (by omega)]) ?_
  refine lv_ldiv hx hb dM_sin_46 (fun q => absurd ((pk_lEQ (by omega) (by decide : 0 < 9223372036854775808)).mp (show lN (20971520 - 4 * jq (jn0 k)) = lN 0 from q)) (by omega)) ?_
  refine ln_asl (lN (js (jn0 k))) (by show lN 1048576 * lN (jq (jn0 k)) / lN (20971520 - 4 * jq (jn0 k)) = _; rw [lN_mul, pk_lDiv (by omega) (by omega) (by omega)]; rfl) ?_
  refine lv_lstore (lv' := [(4, .long (lN (js (jn0 k)))), (2, .long (lN (jq (jn0 k)))), (1, .int (nI (jn0 k))), (0, .int k)]) hx hb dM_sin_47 hl (by decide) rfl (fun ls hl => ?_)
  refine lv_iload_n hx hb dM_sin_49 rfl (lv_at hl 2 rfl) ?_
  refine lv_sipush (v := nI 2048) hx hb dM_sin_50 (by decide) ?_
  refine ln_icmp_ge (tgt := 61) hx hb dM_sin_53 (by decide) (by omega) (by omega) (fun c_53 => ?_) (fun c_53 => ?_)
  · skip
    refine lv_lload hx hb dM_sin_61 (lv_at hl 0 rfl) ?_
    refine lv_lneg hx hb dM_sin_63 ?_
    exact W.lret (v := -(lN (js (jn0 k)))) hx hb hr (fun t ht hW => ⟨_, rfl, by rw [jsin_val, if_pos c_53], ht⟩) (fun _ h => nomatch h) dM_sin_64
  · skip
    refine lv_lload hx hb dM_sin_56 (lv_at hl 0 rfl) ?_
    refine lv_goto (tgt := 64) hx hb dM_sin_58 (by decide) ?_
    exact W.lret (v := lN (js (jn0 k))) hx hb hr (fun t ht hW => ⟨_, rfl, by rw [jsin_val, if_neg (by omega)], ht⟩) (fun _ h => nomatch h) dM_sin_64

set_option maxHeartbeats 4000000 in
set_option maxRecDepth 100000 in
theorem kM_cos (l : Launch) (k : Int32) : Met l yM_cos (wc yM_cos cM_cos 1 (some .long)) ({ frames := 1, cells := 0, slots := 0, locals := 25 } : Room) (va_Pc [.int k] (fun _ => True)) (vp_Sl (fun r => r = (jsin (k + nI 1024)).toInt64)) 0 0 (fun _ => False) := by
  refine Met.ofW (cc := cM_cos) (maxL := 1) (ret := (some .long)) (by decide +kernel) rfl ?_
  intro p e s m args below meth c s₁ B hml hv
  obtain ⟨rfl, -⟩ := hv
  have hx := B.exec
  have hb := B.bytes
  have hr := B.returns
  have hts : ∀ w9 ∈ ws_all, w9.before ([.int k] : List Value).toArray s = true := fun w9 h => atoms_spec (ws := (wc yM_cos cM_cos 1 (some .long))) B.pre w9 (List.mem_cons_of_mem _ h)
  have hown : s.vm.findClass RM = some m.cls := findClass_of_methodNamed B.named
  have hlocks := B.notSynchronized
  have hl := lv_entry ([.int k]) (n := 1) (Nat.le_of_ble_eq_true rfl)
  rw [lg_entry_eq]
  generalize (lg_sl ([.int k]) ++ List.replicate (1 - (lg_sl ([.int k])).length) Slot.unset).toArray = ls at hl ⊢
  have hl : lv_has ls 1 [(0, .int k)] := hl
  refine lv_iload_n hx hb dM_cos_0 rfl (lv_at hl 0 rfl) ?_
  refine lv_sipush (v := nI 1024) hx hb dM_cos_1 (by decide) ?_
  refine lv_iadd hx hb dM_cos_4 ?_
  refine vp_callSl (va_Run.run (bc_runS (own := RM) (As := [.int (k + (nI 1024))]) (rest := []) hx hb (hml.trans hl.1.symm) hown hts (kM_sin l (k + nI 1024)) w_431 w_429 w_430 w_4 hd_M_sin rfl ⟨rfl, rfl⟩ ⟨Nat.le_of_ble_eq_true rfl, Nat.le_of_ble_eq_true rfl⟩ (fun _ _ _ _ _ => trivial) (fun _ _ _ => trivial) rfl (Nat.le_of_ble_eq_true rfl) dM_cos_5 ⟨Nat.le_of_ble_eq_true rfl, Nat.le_of_ble_eq_true rfl⟩)) (fun r_5 hr_5 => ?_)
  exact W.lret (v := r_5) hx hb hr (fun t ht hW => ⟨_, rfl, hr_5, ht⟩) (fun _ h => nomatch h) dM_cos_8

set_option maxHeartbeats 4000000 in
set_option maxRecDepth 100000 in
theorem kM_times (l : Launch) (D : va_G) (cs : Nat → ClassId) (ad : Nat → Nat) (hI : bw_I ad 13) (M : Nat → mRow) (sz : Nat) (a b : Nat → Int32) (ha : lm (M 8) a) (hb0 : lm (M 9) b)  : Met l yM_times (wc yM_times cM_times 6 none) ({ frames := 1, cells := 0, slots := 0, locals := 23 } : Room) (va_Pc [.ref (ad 0)] (mP D cs ad M sz)) (bQv D ad 13 (mc_cell cs ad) sz (fun M1 => (∀ q, q ≠ 7 → M1 q = M q) ∧ lm (M1 7) (jmat a b))) 0 0 (bw_A ad 13 sz) := by
  refine Met.ofW (cc := cM_times) (maxL := 6) (ret := none) (by decide +kernel) rfl ?_
  intro p e s m args below meth c s₁ B hml hv
  obtain ⟨rfl, hsz, hP, hE⟩ := hv
  subst hsz
  have hx := B.exec
  have hb := B.bytes
  have hr := B.returns
  have hts : ∀ w9 ∈ ws_all, w9.before ([.ref (ad 0)] : List Value).toArray s = true := fun w9 h => atoms_spec (ws := (wc yM_times cM_times 6 none)) B.pre w9 (List.mem_cons_of_mem _ h)
  have hown : s.vm.findClass RM = some m.cls := findClass_of_methodNamed B.named
  have hlocks := B.notSynchronized
  have hS : va_S (bw_A ad 13 s.heap.size) s.heap s.heap [] := va_S.rf
  have hl := lv_entry ([.ref (ad 0)]) (n := 6) (Nat.le_of_ble_eq_true rfl)
  rw [lg_entry_eq]
  generalize (lg_sl ([.ref (ad 0)]) ++ List.replicate (6 - (lg_sl ([.ref (ad 0)])).length) Slot.unset).toArray = ls at hl ⊢
  have hl : lv_has ls 6 [(0, .ref (ad 0))] := hl
  have loop : ∀ kf : Nat, (∀ (i : Nat)  (M1 : Nat → mRow) (H : Heap) (locs : List Loc) (ls : Array Slot), i ≤ 3 → lfill M M1 7 (4 * i) (jprod a b) → 40 * (3 - i) < kf → va_P D cls3 (bw ad 13 (fun j => mc_cell cs ad j (M1 j))) H → va_S (bw_A ad 13 s.heap.size) s.heap H locs → lv_has ls 6 [(1, .int (nI i)), (0, .ref (ad 0))] → W p l e (headSpec (wc yM_times cM_times 6 none) ({ frames := 1, cells := 0, slots := 0, locals := 23 } : Room)).room s m ([.ref (ad 0)] : List Value).toArray below meth c H locs 0 0 (MQ below (bQv D ad 13 (mc_cell cs ad) s.heap.size (fun M1 => (∀ q, q ≠ 7 → M1 q = M q) ∧ lm (M1 7) (jmat a b))) ([.ref (ad 0)] : List Value).toArray s 0 0 (bw_A ad 13 s.heap.size)) (F0 m 2 ls [])) ∧ (∀ (i : Nat) (j : Nat)  (M1 : Nat → mRow) (H : Heap) (locs : List Loc) (ls : Array Slot), i < 3 → j ≤ 4 → lfill M M1 7 (4 * i + j) (jprod a b) → 40 * (3 - i) - 1 - 6 * j < kf → va_P D cls3 (bw ad 13 (fun j => mc_cell cs ad j (M1 j))) H → va_S (bw_A ad 13 s.heap.size) s.heap H locs → lv_has ls 6 [(1, .int (nI i)), (2, .int (nI j)), (0, .ref (ad 0))] → W p l e (headSpec (wc yM_times cM_times 6 none) ({ frames := 1, cells := 0, slots := 0, locals := 23 } : Room)).room s m ([.ref (ad 0)] : List Value).toArray below meth c H locs 0 0 (MQ below (bQv D ad 13 (mc_cell cs ad) s.heap.size (fun M1 => (∀ q, q ≠ 7 → M1 q = M q) ∧ lm (M1 7) (jmat a b))) ([.ref (ad 0)] : List Value).toArray s 0 0 (bw_A ad 13 s.heap.size)) (F0 m 9 ls [])) ∧ (∀ (i : Nat) (j : Nat) (k : Nat)  (M1 : Nat → mRow) (H : Heap) (locs : List Loc) (ls : Array Slot), i < 3 → j < 4 → k ≤ 3 → lfill M M1 7 (4 * i + j) (jprod a b) → 40 * (3 - i) - 1 - 6 * j - 1 - k < kf → va_P D cls3 (bw ad 13 (fun j => mc_cell cs ad j (M1 j))) H → va_S (bw_A ad 13 s.heap.size) s.heap H locs → lv_has ls 6 [(1, .int (nI i)), (2, .int (nI j)), (5, .int (nI k)), (0, .ref (ad 0)), (3, .long (jacc a b i j k))] → W p l e (headSpec (wc yM_times cM_times 6 none) ({ frames := 1, cells := 0, slots := 0, locals := 23 } : Room)).room s m ([.ref (ad 0)] : List Value).toArray below meth c H locs 0 0 (MQ below (bQv D ad 13 (mc_cell cs ad) s.heap.size (fun M1 => (∀ q, q ≠ 7 → M1 q = M q) ∧ lm (M1 7) (jmat a b))) ([.ref (ad 0)] : List Value).toArray s 0 0 (bw_A ad 13 s.heap.size)) (F0 m 37 ls [])) := by
    intro kf
    induction kf with
    | zero => exact ⟨by intros; omega, by intros; omega, by intros; omega⟩
    | succ kf ih =>
      refine ⟨?_, ?_, ?_⟩
      · skip
        intro i  M1 H locs ls hi hinv hmu hP hS hl
        refine lv_iload_n hx hb dM_times_2 rfl (lv_at hl 0 rfl) ?_
        refine lv_iconst (v := nI 3) hx hb dM_times_3 (by decide) ?_
        refine ln_icmp_ge (tgt := 103) hx hb dM_times_4 (by decide) (by omega) (by omega) (fun c_4 => ?_) (fun c_4 => ?_)
        · skip
          exact W.vret hx hb hr (fun t ht hW => ⟨⟨M1, rfl, ⟨hinv.1, lfill.done (hinv.le (by omega))⟩, by show va_P _ _ _ t.heap; rw [ht]; exact hP⟩, hS.F ht⟩) hS.2.2 dM_times_103
        · skip
          refine lv_iconst (v := nI 0) hx hb dM_times_7 (by decide) ?_
          refine lv_istore_n (lv' := [(2, .int (nI 0)), (1, .int (nI i)), (0, .ref (ad 0))]) hx hb dM_times_8 rfl hl (by decide) rfl (fun ls hl => ?_)
          exact ih.2.1 i 0  M1 H locs ls (by omega) (by omega) (hinv) (by omega) hP hS (lv_sub hl [1, 0, 2] rfl)
      · skip
        intro i j  M1 H locs ls hi hj0 hinv hmu hP hS hl
        refine lv_iload_n hx hb dM_times_9 rfl (lv_at hl 1 rfl) ?_
        refine lv_iconst (v := nI 4) hx hb dM_times_10 (by decide) ?_
        refine ln_icmp_ge (tgt := 97) hx hb dM_times_11 (by decide) (by omega) (by omega) (fun c_11 => ?_) (fun c_11 => ?_)
        · skip
          refine lv_iinc (v := nI (i + 1)) (lv' := [(1, .int (nI (i + 1))), (2, .int (nI j)), (0, .ref (ad 0))]) hx hb dM_times_97 hl (k := 0) rfl (nI_add i 1) (by decide) rfl (fun ls hl => ?_)
          refine lv_goto (tgt := 2) hx hb dM_times_100 (by decide) ?_
          exact ih.1 (i + 1)  M1 H locs ls (by omega) (hinv.le (by omega)) (by omega) hP hS (lv_sub hl [0, 2] rfl)
        · skip
          refine lv_iload_n hx hb dM_times_14 rfl (lv_at hl 1 rfl) ?_
          refine lv_iconst (v := nI 3) hx hb dM_times_15 (by decide) ?_
          refine ln_icmp_ne (tgt := 32) hx hb dM_times_16 (by decide) (by omega) (by omega) (fun c_16 => ?_) (fun c_16 => ?_)
          · skip
            refine lv_lconst (v := 0) hx hb dM_times_32 (by decide) ?_
            refine ln_asl (jacc a b i j 0) (by unfold jacc; rw [if_neg c_16]) ?_
            refine lv_lstore_n (lv' := [(3, .long (jacc a b i j 0)), (1, .int (nI i)), (2, .int (nI j)), (0, .ref (ad 0))]) hx hb dM_times_33 rfl hl (by decide) rfl (fun ls hl => ?_)
            refine lv_iconst (v := nI 0) hx hb dM_times_34 (by decide) ?_
            refine lv_istore (lv' := [(5, .int (nI 0)), (3, .long (jacc a b i j 0)), (1, .int (nI i)), (2, .int (nI j)), (0, .ref (ad 0))]) hx hb dM_times_35 hl (by decide) rfl (fun ls hl => ?_)
            exact ih.2.2 i j 0  M1 H locs ls (by omega) (by omega) (by omega) (hinv) (by omega) hP hS (lv_sub hl [2, 3, 0, 4, 1] rfl)
          · skip
            refine lv_aload_n hx hb dM_times_19 rfl (lv_at hl 2 rfl) ?_
            refine bw_get (own := RM) (ci := 2) (C := RM) (T := TM) (N := 14) (v := .ref (ad 8)) hx hb hts inM hown hE hP 0 (by decide) rfl rfl 9 (by decide) w_325 rfl rfl dM_times_20 ?_
            refine lv_iconst (v := nI 4) hx hb dM_times_23 (by decide) ?_
            refine lv_iload_n hx hb dM_times_24 rfl (lv_at hl 0 rfl) ?_
            refine ln_imul hx hb dM_times_25 ?_
            refine lv_iconst (v := nI 3) hx hb dM_times_26 (by decide) ?_
            refine ln_iadd hx hb dM_times_27 ?_
            refine ln_lald (L := 12) (g := (M1 8).2) hx hb hE hP 8 3 (by decide) (rfl) rfl (by omega) (by decide) dM_times_28 ?_
            refine lv_goto (tgt := 33) hx hb dM_times_29 (by decide) ?_
            refine ln_asl (jacc a b i j 0) (by rw [hinv.1 8 (by decide), ha (4 * i + 3) (by omega)]; unfold jacc; rw [if_pos c_16]) ?_
            refine lv_lstore_n (lv' := [(3, .long (jacc a b i j 0)), (1, .int (nI i)), (2, .int (nI j)), (0, .ref (ad 0))]) hx hb dM_times_33 rfl hl (by decide) rfl (fun ls hl => ?_)
            refine lv_iconst (v := nI 0) hx hb dM_times_34 (by decide) ?_
            refine lv_istore (lv' := [(5, .int (nI 0)), (3, .long (jacc a b i j 0)), (1, .int (nI i)), (2, .int (nI j)), (0, .ref (ad 0))]) hx hb dM_times_35 hl (by decide) rfl (fun ls hl => ?_)
            exact ih.2.2 i j 0  M1 H locs ls (by omega) (by omega) (by omega) (hinv) (by omega) hP hS (lv_sub hl [2, 3, 0, 4, 1] rfl)
      · skip
        intro i j k  M1 H locs ls hi hj0 hk0 hinv hmu hP hS hl
        refine lv_iload hx hb dM_times_37 (lv_at hl 2 rfl) ?_
        refine lv_iconst (v := nI 3) hx hb dM_times_39 (by decide) ?_
        refine ln_icmp_ge (tgt := 77) hx hb dM_times_40 (by decide) (by omega) (by omega) (fun c_40 => ?_) (fun c_40 => ?_)
        · skip
          refine lv_aload_n hx hb dM_times_77 rfl (lv_at hl 3 rfl) ?_
          refine bw_get (own := RM) (ci := 2) (C := RM) (T := TM) (N := 14) (v := .ref (ad 7)) hx hb hts inM hown hE hP 0 (by decide) rfl rfl 8 (by decide) w_324 rfl rfl dM_times_78 ?_
          refine lv_iconst (v := nI 4) hx hb dM_times_81 (by decide) ?_
          refine lv_iload_n hx hb dM_times_82 rfl (lv_at hl 0 rfl) ?_
          refine ln_imul hx hb dM_times_83 ?_
          refine lv_iload_n hx hb dM_times_84 rfl (lv_at hl 1 rfl) ?_
          refine ln_iadd hx hb dM_times_85 ?_
          refine lv_lload_n hx hb dM_times_86 rfl (lv_at hl 4 rfl) ?_
          refine vp_callSl (va_Run.run (bc_runS (own := RM) (As := [.long (jacc a b i j k)]) (rest := [.int (nI ((4 * i) + j)), .ref (ad 7)]) hx hb (hml.trans hl.1.symm) hown hts (kM_bound l (jacc a b i j k)) w_444 w_442 w_443 w_4 hd_M_bound rfl ⟨rfl, rfl⟩ ⟨Nat.le_of_ble_eq_true rfl, Nat.le_of_ble_eq_true rfl⟩ (fun _ _ _ _ _ => trivial) (fun _ _ _ => trivial) rfl (Nat.le_of_ble_eq_true rfl) dM_times_87 ⟨Nat.le_of_ble_eq_true rfl, Nat.le_of_ble_eq_true rfl⟩)) (fun r_87 hr_87 => ?_)
          refine ln_last (L := 12) hx hb hE hI hP hS 7 3 (by decide) (rfl) rfl (by omega) (by decide) (((M1 7).1, vp_updL (M1 7).2 ((4 * i) + j) r_87)) (rfl) dM_times_90 (fun M_1 H locs eM_1 hP hS => ?_)
          refine lv_iinc (v := nI (j + 1)) (lv' := [(2, .int (nI (j + 1))), (1, .int (nI i)), (5, .int (nI k)), (0, .ref (ad 0)), (3, .long (jacc a b i j k))]) hx hb dM_times_91 hl (k := 1) rfl (nI_add j 1) (by decide) rfl (fun ls hl => ?_)
          refine lv_goto (tgt := 9) hx hb dM_times_94 (by decide) ?_
          exact ih.2.1 i (j + 1)  M_1 H locs ls (by omega) (by omega) (hinv.step eM_1 (by rw [hr_87, show k = 3 by omega]; exact jacc_prod a b i (by omega)) (by omega)) (by omega) hP hS (lv_sub hl [1, 0, 3] rfl)
        · skip
          refine lv_lload_n hx hb dM_times_43 rfl (lv_at hl 4 rfl) ?_
          refine lv_aload_n hx hb dM_times_44 rfl (lv_at hl 3 rfl) ?_
          refine bw_get (own := RM) (ci := 2) (C := RM) (T := TM) (N := 14) (v := .ref (ad 8)) hx hb hts inM hown hE hP 0 (by decide) rfl rfl 9 (by decide) w_325 rfl rfl dM_times_45 ?_
          refine lv_iconst (v := nI 4) hx hb dM_times_48 (by decide) ?_
          refine lv_iload_n hx hb dM_times_49 rfl (lv_at hl 0 rfl) ?_
          refine ln_imul hx hb dM_times_50 ?_
          refine lv_iload hx hb dM_times_51 (lv_at hl 2 rfl) ?_
          refine ln_iadd hx hb dM_times_53 ?_
          refine ln_lald (L := 12) (g := (M1 8).2) hx hb hE hP 8 3 (by decide) (rfl) rfl (by omega) (by decide) dM_times_54 ?_
          refine lv_aload_n hx hb dM_times_55 rfl (lv_at hl 3 rfl) ?_
          refine bw_get (own := RM) (ci := 2) (C := RM) (T := TM) (N := 14) (v := .ref (ad 9)) hx hb hts inM hown hE hP 0 (by decide) rfl rfl 10 (by decide) w_326 rfl rfl dM_times_56 ?_
          refine lv_iconst (v := nI 4) hx hb dM_times_59 (by decide) ?_
          refine lv_iload hx hb dM_times_60 (lv_at hl 2 rfl) ?_
          refine ln_imul hx hb dM_times_62 ?_
          refine lv_iload_n hx hb dM_times_63 rfl (lv_at hl 1 rfl) ?_
          refine ln_iadd hx hb dM_times_64 ?_
          refine ln_lald (L := 12) (g := (M1 9).2) hx hb hE hP 9 3 (by decide) (rfl) rfl (by omega) (by decide) dM_times_65 ?_
          refine vp_callSl (va_Run.run (bc_runS (own := RM) (As := [.long ((M1 8).2 ((4 * i) + k)), .long ((M1 9).2 ((4 * k) + j))]) (rest := [.long (jacc a b i j k)]) hx hb (hml.trans hl.1.symm) hown hts (kM_mul l ((M1 8).2 ((4 * i) + k)) ((M1 9).2 ((4 * k) + j))) w_441 w_439 w_440 w_4 hd_M_mul rfl ⟨rfl, rfl⟩ ⟨Nat.le_of_ble_eq_true rfl, Nat.le_of_ble_eq_true rfl⟩ (fun _ _ _ _ _ => trivial) (fun _ _ _ => trivial) rfl (Nat.le_of_ble_eq_true rfl) dM_times_66 ⟨Nat.le_of_ble_eq_true rfl, Nat.le_of_ble_eq_true rfl⟩)) (fun r_66 hr_66 => ?_)
          refine lv_ladd hx hb dM_times_69 ?_
          refine ln_asl (jacc a b i j (k + 1)) (by rw [hr_66, hinv.1 8 (by decide), hinv.1 9 (by decide), ha (4 * i + k) (by omega), hb0 (4 * k + j) (by omega)]; rfl) ?_
          refine lv_lstore_n (lv' := [(3, .long (jacc a b i j (k + 1))), (1, .int (nI i)), (2, .int (nI j)), (5, .int (nI k)), (0, .ref (ad 0))]) hx hb dM_times_70 rfl hl (by decide) rfl (fun ls hl => ?_)
          refine lv_iinc (v := nI (k + 1)) (lv' := [(5, .int (nI (k + 1))), (3, .long (jacc a b i j (k + 1))), (1, .int (nI i)), (2, .int (nI j)), (0, .ref (ad 0))]) hx hb dM_times_71 hl (k := 3) rfl (nI_add k 1) (by decide) rfl (fun ls hl => ?_)
          refine lv_goto (tgt := 37) hx hb dM_times_74 (by decide) ?_
          exact ih.2.2 i j (k + 1)  M1 H locs ls (by omega) (by omega) (by omega) (hinv) (by omega) hP hS (lv_sub hl [2, 3, 0, 4, 1] rfl)
  refine lv_iconst (v := nI 0) hx hb dM_times_0 (by decide) ?_
  refine lv_istore_n (lv' := [(1, .int (nI 0)), (0, .ref (ad 0))]) hx hb dM_times_1 rfl hl (by decide) rfl (fun ls hl => ?_)
  exact (loop 100000).1 0  M s.heap [] ls (by omega) (lfill.zero) (by omega) hP hS (lv_sub hl [0, 1] rfl)

set_option maxHeartbeats 4000000 in
set_option maxRecDepth 100000 in
theorem kM_copy (l : Launch) (D : va_G) (cs : Nat → ClassId) (ad : Nat → Nat) (hI : bw_I ad 13) (M : Nat → mRow) (sz : Nat) (ka kb : Nat) (hka : ka < 13) (hkb : kb < 13) (fa : lc12 cs ad ka) (fb : lc12 cs ad kb) (hne : ka ≠ kb)  : Met l yM_copy (wc yM_copy cM_copy 3 none) ({ frames := 0, cells := 0, slots := 0, locals := 0 } : Room) (va_Pc [.ref (ad ka), .ref (ad kb)] (mP D cs ad M sz)) (bQv D ad 13 (mc_cell cs ad) sz (fun M1 => cInv M M1 ka kb 12)) 0 0 (bw_A ad 13 sz) := by
  refine Met.ofW (cc := cM_copy) (maxL := 3) (ret := none) (by decide +kernel) rfl ?_
  intro p e s m args below meth c s₁ B hml hv
  obtain ⟨rfl, hsz, hP, hE⟩ := hv
  subst hsz
  have hx := B.exec
  have hb := B.bytes
  have hr := B.returns
  have hts : ∀ w9 ∈ ws_all, w9.before ([.ref (ad ka), .ref (ad kb)] : List Value).toArray s = true := fun w9 h => atoms_spec (ws := (wc yM_copy cM_copy 3 none)) B.pre w9 (List.mem_cons_of_mem _ h)
  have hown : s.vm.findClass RM = some m.cls := findClass_of_methodNamed B.named
  have hlocks := B.notSynchronized
  have hS : va_S (bw_A ad 13 s.heap.size) s.heap s.heap [] := va_S.rf
  have hl := lv_entry ([.ref (ad ka), .ref (ad kb)]) (n := 3) (Nat.le_of_ble_eq_true rfl)
  rw [lg_entry_eq]
  generalize (lg_sl ([.ref (ad ka), .ref (ad kb)]) ++ List.replicate (3 - (lg_sl ([.ref (ad ka), .ref (ad kb)])).length) Slot.unset).toArray = ls at hl ⊢
  have hl : lv_has ls 3 [(0, .ref (ad ka)), (1, .ref (ad kb))] := hl
  have loop : ∀ kf : Nat, (∀ (i : Nat)  (M1 : Nat → mRow) (H : Heap) (locs : List Loc) (ls : Array Slot), i ≤ 12 → cInv M M1 ka kb i → 12 - i < kf → va_P D cls3 (bw ad 13 (fun j => mc_cell cs ad j (M1 j))) H → va_S (bw_A ad 13 s.heap.size) s.heap H locs → lv_has ls 3 [(2, .int (nI i)), (0, .ref (ad ka)), (1, .ref (ad kb))] → W p l e (headSpec (wc yM_copy cM_copy 3 none) ({ frames := 0, cells := 0, slots := 0, locals := 0 } : Room)).room s m ([.ref (ad ka), .ref (ad kb)] : List Value).toArray below meth c H locs 0 0 (MQ below (bQv D ad 13 (mc_cell cs ad) s.heap.size (fun M1 => cInv M M1 ka kb 12)) ([.ref (ad ka), .ref (ad kb)] : List Value).toArray s 0 0 (bw_A ad 13 s.heap.size)) (F0 m 2 ls [])) := by
    intro kf
    induction kf with
    | zero => exact by intros; omega
    | succ kf ih =>
      intro i  M1 H locs ls hi hinv hmu hP hS hl
      refine lv_iload_n hx hb dM_copy_2 rfl (lv_at hl 0 rfl) ?_
      refine lv_bipush (v := nI 12) hx hb dM_copy_3 (by decide) ?_
      refine ln_icmp_ge (tgt := 20) hx hb dM_copy_5 (by decide) (by omega) (by omega) (fun c_5 => ?_) (fun c_5 => ?_)
      · skip
        exact W.vret hx hb hr (fun t ht hW => ⟨⟨M1, rfl, by rw [show i = 12 by omega] at hinv; exact hinv, by show va_P _ _ _ t.heap; rw [ht]; exact hP⟩, hS.F ht⟩) hS.2.2 dM_copy_20
      · skip
        refine lv_aload_n hx hb dM_copy_8 rfl (lv_at hl 2 rfl) ?_
        refine lv_iload_n hx hb dM_copy_9 rfl (lv_at hl 0 rfl) ?_
        refine lv_aload_n hx hb dM_copy_10 rfl (lv_at hl 1 rfl) ?_
        refine lv_iload_n hx hb dM_copy_11 rfl (lv_at hl 0 rfl) ?_
        refine ln_lald (L := 12) (g := (M1 ka).2) hx hb hE hP ka 3 (hka) (fa _) rfl (by omega) (by decide) dM_copy_12 ?_
        refine ln_last (L := 12) hx hb hE hI hP hS kb 3 (hkb) (fb _) rfl (by omega) (by decide) (((M1 kb).1, vp_updL (M1 kb).2 i ((M1 ka).2 i))) (fb _) dM_copy_13 (fun M_1 H locs eM_1 hP hS => ?_)
        refine lv_iinc (v := nI (i + 1)) (lv' := [(2, .int (nI (i + 1))), (0, .ref (ad ka)), (1, .ref (ad kb))]) hx hb dM_copy_14 hl (k := 0) rfl (nI_add i 1) (by decide) rfl (fun ls hl => ?_)
        refine lv_goto (tgt := 2) hx hb dM_copy_17 (by decide) ?_
        exact ih (i + 1)  M_1 H locs ls (by omega) (hinv.step hne eM_1) (by omega) hP hS (lv_sub hl [0, 1, 2] rfl)
  refine lv_iconst (v := nI 0) hx hb dM_copy_0 (by decide) ?_
  refine lv_istore_n (lv' := [(2, .int (nI 0)), (0, .ref (ad ka)), (1, .ref (ad kb))]) hx hb dM_copy_1 rfl hl (by decide) rfl (fun ls hl => ?_)
  exact (loop 100000) 0  M s.heap [] ls (by omega) (⟨fun _ _ => rfl, fun t ht => by omega⟩) (by omega) hP hS (lv_sub hl [0, 1, 2] rfl)

set_option maxHeartbeats 4000000 in
set_option maxRecDepth 100000 in
theorem kM_axis0 (l : Launch) (D : va_G) (cs : Nat → ClassId) (ad : Nat → Nat) (hI : bw_I ad 13) (M : Nat → mRow) (sz : Nat) (kc : Nat) (hkc : kc < 13) (fc : lc12 cs ad kc) (a : Int32)  : Met l yM_axis (wc yM_axis cM_axis 5 none) ({ frames := 2, cells := 0, slots := 0, locals := 45 } : Room) (va_Pc [.ref (ad kc), .int (nI 0), .int a] (mP D cs ad M sz)) (bQv D ad 13 (mc_cell cs ad) sz (fun M1 => (∀ x, x ≠ kc → M1 x = M x) ∧ lm (M1 kc) (jspin (fun _ => 0) 1 2 a))) 0 0 (bw_A ad 13 sz) := by
  refine Met.ofW (cc := cM_axis) (maxL := 5) (ret := none) (by decide +kernel) rfl ?_
  intro p e s m args below meth c s₁ B hml hv
  obtain ⟨rfl, hsz, hP, hE⟩ := hv
  subst hsz
  have hx := B.exec
  have hb := B.bytes
  have hr := B.returns
  have hts : ∀ w9 ∈ ws_all, w9.before ([.ref (ad kc), .int (nI 0), .int a] : List Value).toArray s = true := fun w9 h => atoms_spec (ws := (wc yM_axis cM_axis 5 none)) B.pre w9 (List.mem_cons_of_mem _ h)
  have hown : s.vm.findClass RM = some m.cls := findClass_of_methodNamed B.named
  have hlocks := B.notSynchronized
  have hS : va_S (bw_A ad 13 s.heap.size) s.heap s.heap [] := va_S.rf
  have hl := lv_entry ([.ref (ad kc), .int (nI 0), .int a]) (n := 5) (Nat.le_of_ble_eq_true rfl)
  rw [lg_entry_eq]
  generalize (lg_sl ([.ref (ad kc), .int (nI 0), .int a]) ++ List.replicate (5 - (lg_sl ([.ref (ad kc), .int (nI 0), .int a])).length) Slot.unset).toArray = ls at hl ⊢
  have hl : lv_has ls 5 [(0, .ref (ad kc)), (1, .int (nI 0)), (2, .int a)] := hl
  have loop : ∀ kf : Nat, (∀ (i : Nat)  (M1 : Nat → mRow) (H : Heap) (locs : List Loc) (ls : Array Slot), i ≤ 12 → dInv M M1 kc i → 12 - i < kf → va_P D cls3 (bw ad 13 (fun j => mc_cell cs ad j (M1 j))) H → va_S (bw_A ad 13 s.heap.size) s.heap H locs → lv_has ls 5 [(3, .int (nI i)), (0, .ref (ad kc)), (1, .int (nI 0)), (2, .int a)] → W p l e (headSpec (wc yM_axis cM_axis 5 none) ({ frames := 2, cells := 0, slots := 0, locals := 45 } : Room)).room s m ([.ref (ad kc), .int (nI 0), .int a] : List Value).toArray below meth c H locs 0 0 (MQ below (bQv D ad 13 (mc_cell cs ad) s.heap.size (fun M1 => (∀ x, x ≠ kc → M1 x = M x) ∧ lm (M1 kc) (jspin (fun _ => 0) 1 2 a))) ([.ref (ad kc), .int (nI 0), .int a] : List Value).toArray s 0 0 (bw_A ad 13 s.heap.size)) (F0 m 2 ls [])) := by
    intro kf
    induction kf with
    | zero => exact by intros; omega
    | succ kf ih =>
      intro i  M1 H locs ls hi hinv hmu hP hS hl
      refine lv_iload_n hx hb dM_axis_2 rfl (lv_at hl 0 rfl) ?_
      refine lv_bipush (v := nI 12) hx hb dM_axis_3 (by decide) ?_
      refine ln_icmp_ge (tgt := 30) hx hb dM_axis_5 (by decide) (by omega) (by omega) (fun c_5 => ?_) (fun c_5 => ?_)
      · skip
        refine lv_iload_n hx hb dM_axis_30 rfl (lv_at hl 2 rfl) ?_
        refine lv_if_ne (tgt := 38) hx hb dM_axis_31 (by decide) (fun c_31 => ?_) (fun c_31 => ?_)
        · skip
          exact absurd (by decide) c_31
        · skip
          refine lv_iconst (v := nI 1) hx hb dM_axis_34 (by decide) ?_
          refine lv_goto (tgt := 48) hx hb dM_axis_35 (by decide) ?_
          refine lv_istore_n (lv' := [(3, .int (nI 1)), (0, .ref (ad kc)), (1, .int (nI 0)), (2, .int a)]) hx hb dM_axis_48 rfl hl (by decide) rfl (fun ls hl => ?_)
          refine lv_iload_n hx hb dM_axis_49 rfl (lv_at hl 2 rfl) ?_
          refine lv_if_ne (tgt := 57) hx hb dM_axis_50 (by decide) (fun c_50 => ?_) (fun c_50 => ?_)
          · skip
            exact absurd (by decide) c_50
          · skip
            refine lv_iconst (v := nI 2) hx hb dM_axis_53 (by decide) ?_
            refine lv_goto (tgt := 67) hx hb dM_axis_54 (by decide) ?_
            refine lv_istore (lv' := [(4, .int (nI 2)), (3, .int (nI 1)), (0, .ref (ad kc)), (1, .int (nI 0)), (2, .int a)]) hx hb dM_axis_67 hl (by decide) rfl (fun ls hl => ?_)
            refine lv_aload_n hx hb dM_axis_69 rfl (lv_at hl 2 rfl) ?_
            refine lv_iconst (v := nI 4) hx hb dM_axis_70 (by decide) ?_
            refine lv_iload_n hx hb dM_axis_71 rfl (lv_at hl 1 rfl) ?_
            refine ln_imul hx hb dM_axis_72 ?_
            refine lv_iload_n hx hb dM_axis_73 rfl (lv_at hl 1 rfl) ?_
            refine ln_iadd hx hb dM_axis_74 ?_
            refine lv_iload_n hx hb dM_axis_75 rfl (lv_at hl 4 rfl) ?_
            refine vp_callSl (va_Run.run (bc_runS (own := RM) (As := [.int a]) (rest := [.int (nI ((4 * 1) + 1)), .ref (ad kc)]) hx hb (hml.trans hl.1.symm) hown hts (kM_cos l a) w_428 w_426 w_427 w_4 hd_M_cos rfl ⟨rfl, rfl⟩ ⟨Nat.le_of_ble_eq_true rfl, Nat.le_of_ble_eq_true rfl⟩ (fun _ _ _ _ _ => trivial) (fun _ _ _ => trivial) rfl (Nat.le_of_ble_eq_true rfl) dM_axis_76 ⟨Nat.le_of_ble_eq_true rfl, Nat.le_of_ble_eq_true rfl⟩)) (fun r_76 hr_76 => ?_)
            refine ln_asl ((jsin (a + nI 1024)).toInt64) (by exact hr_76) ?_
            refine ln_last (L := 12) hx hb hE hI hP hS kc 3 (hkc) (fc _) rfl (by omega) (by decide) (((M1 kc).1, vp_updL (M1 kc).2 ((4 * 1) + 1) ((jsin (a + nI 1024)).toInt64))) (fc _) dM_axis_79 (fun M_1 H locs eM_1 hP hS => ?_)
            refine lv_aload_n hx hb dM_axis_80 rfl (lv_at hl 2 rfl) ?_
            refine lv_iconst (v := nI 4) hx hb dM_axis_81 (by decide) ?_
            refine lv_iload_n hx hb dM_axis_82 rfl (lv_at hl 1 rfl) ?_
            refine ln_imul hx hb dM_axis_83 ?_
            refine lv_iload hx hb dM_axis_84 (lv_at hl 0 rfl) ?_
            refine ln_iadd hx hb dM_axis_86 ?_
            refine lv_iload_n hx hb dM_axis_87 rfl (lv_at hl 4 rfl) ?_
            refine vp_callSl (va_Run.run (bc_runS (own := RM) (As := [.int a]) (rest := [.int (nI ((4 * 1) + 2)), .ref (ad kc)]) hx hb (hml.trans hl.1.symm) hown hts (kM_sin l a) w_431 w_429 w_430 w_4 hd_M_sin rfl ⟨rfl, rfl⟩ ⟨Nat.le_of_ble_eq_true rfl, Nat.le_of_ble_eq_true rfl⟩ (fun _ _ _ _ _ => trivial) (fun _ _ _ => trivial) rfl (Nat.le_of_ble_eq_true rfl) dM_axis_88 ⟨Nat.le_of_ble_eq_true rfl, Nat.le_of_ble_eq_true rfl⟩)) (fun r_88 hr_88 => ?_)
            refine ln_asl ((jsin a).toInt64) (by exact hr_88) ?_
            refine lv_lneg hx hb dM_axis_91 ?_
            refine ln_last (L := 12) hx hb hE hI hP hS kc 3 (hkc) (fc _) rfl (by omega) (by decide) (((M_1 kc).1, vp_updL (M_1 kc).2 ((4 * 1) + 2) (-((jsin a).toInt64)))) (fc _) dM_axis_92 (fun M_2 H locs eM_2 hP hS => ?_)
            refine lv_aload_n hx hb dM_axis_93 rfl (lv_at hl 2 rfl) ?_
            refine lv_iconst (v := nI 4) hx hb dM_axis_94 (by decide) ?_
            refine lv_iload hx hb dM_axis_95 (lv_at hl 0 rfl) ?_
            refine ln_imul hx hb dM_axis_97 ?_
            refine lv_iload_n hx hb dM_axis_98 rfl (lv_at hl 1 rfl) ?_
            refine ln_iadd hx hb dM_axis_99 ?_
            refine lv_iload_n hx hb dM_axis_100 rfl (lv_at hl 4 rfl) ?_
            refine vp_callSl (va_Run.run (bc_runS (own := RM) (As := [.int a]) (rest := [.int (nI ((4 * 2) + 1)), .ref (ad kc)]) hx hb (hml.trans hl.1.symm) hown hts (kM_sin l a) w_431 w_429 w_430 w_4 hd_M_sin rfl ⟨rfl, rfl⟩ ⟨Nat.le_of_ble_eq_true rfl, Nat.le_of_ble_eq_true rfl⟩ (fun _ _ _ _ _ => trivial) (fun _ _ _ => trivial) rfl (Nat.le_of_ble_eq_true rfl) dM_axis_101 ⟨Nat.le_of_ble_eq_true rfl, Nat.le_of_ble_eq_true rfl⟩)) (fun r_101 hr_101 => ?_)
            refine ln_asl ((jsin a).toInt64) (by exact hr_101) ?_
            refine ln_last (L := 12) hx hb hE hI hP hS kc 3 (hkc) (fc _) rfl (by omega) (by decide) (((M_2 kc).1, vp_updL (M_2 kc).2 ((4 * 2) + 1) ((jsin a).toInt64))) (fc _) dM_axis_104 (fun M_3 H locs eM_3 hP hS => ?_)
            refine lv_aload_n hx hb dM_axis_105 rfl (lv_at hl 2 rfl) ?_
            refine lv_iconst (v := nI 4) hx hb dM_axis_106 (by decide) ?_
            refine lv_iload hx hb dM_axis_107 (lv_at hl 0 rfl) ?_
            refine ln_imul hx hb dM_axis_109 ?_
            refine lv_iload hx hb dM_axis_110 (lv_at hl 0 rfl) ?_
            refine ln_iadd hx hb dM_axis_112 ?_
            refine lv_iload_n hx hb dM_axis_113 rfl (lv_at hl 4 rfl) ?_
            refine vp_callSl (va_Run.run (bc_runS (own := RM) (As := [.int a]) (rest := [.int (nI ((4 * 2) + 2)), .ref (ad kc)]) hx hb (hml.trans hl.1.symm) hown hts (kM_cos l a) w_428 w_426 w_427 w_4 hd_M_cos rfl ⟨rfl, rfl⟩ ⟨Nat.le_of_ble_eq_true rfl, Nat.le_of_ble_eq_true rfl⟩ (fun _ _ _ _ _ => trivial) (fun _ _ _ => trivial) rfl (Nat.le_of_ble_eq_true rfl) dM_axis_114 ⟨Nat.le_of_ble_eq_true rfl, Nat.le_of_ble_eq_true rfl⟩)) (fun r_114 hr_114 => ?_)
            refine ln_asl ((jsin (a + nI 1024)).toInt64) (by exact hr_114) ?_
            refine ln_last (L := 12) hx hb hE hI hP hS kc 3 (hkc) (fc _) rfl (by omega) (by decide) (((M_3 kc).1, vp_updL (M_3 kc).2 ((4 * 2) + 2) ((jsin (a + nI 1024)).toInt64))) (fc _) dM_axis_117 (fun M_4 H locs eM_4 hP hS => ?_)
            exact W.vret hx hb hr (fun t ht hW => ⟨⟨M_4, rfl, axis_done (by decide) (by rw [show i = 12 by omega] at hinv; exact hinv) eM_1 eM_2 eM_3 eM_4, by show va_P _ _ _ t.heap; rw [ht]; exact hP⟩, hS.F ht⟩) hS.2.2 dM_axis_118
      · skip
        refine lv_aload_n hx hb dM_axis_8 rfl (lv_at hl 1 rfl) ?_
        refine lv_iload_n hx hb dM_axis_9 rfl (lv_at hl 0 rfl) ?_
        refine lv_iload_n hx hb dM_axis_10 rfl (lv_at hl 0 rfl) ?_
        refine lv_iconst (v := nI 5) hx hb dM_axis_11 (by decide) ?_
        refine lv_irem hx hb dM_axis_12 (by decide) ?_
        refine ln_asi (nI (i % 5)) (by exact pk_rem (by omega) (by decide) (by decide)) ?_
        refine lv_if_ne (tgt := 22) hx hb dM_axis_13 (by decide) (fun c_13 => ?_) (fun c_13 => ?_)
        · skip
          refine lv_lconst (v := 0) hx hb dM_axis_22 (by decide) ?_
          refine ln_asl (if i % 5 = 0 then 65536 else 0) (by rw [if_neg (fun z => c_13 ((nI_z (by omega)).mpr z))]) ?_
          refine ln_last (L := 12) hx hb hE hI hP hS kc 3 (hkc) (fc _) rfl (by omega) (by decide) (((M1 kc).1, vp_updL (M1 kc).2 i (if i % 5 = 0 then 65536 else 0))) (fc _) dM_axis_23 (fun M_5 H locs eM_5 hP hS => ?_)
          refine lv_iinc (v := nI (i + 1)) (lv' := [(3, .int (nI (i + 1))), (0, .ref (ad kc)), (1, .int (nI 0)), (2, .int a)]) hx hb dM_axis_24 hl (k := 0) rfl (nI_add i 1) (by decide) rfl (fun ls hl => ?_)
          refine lv_goto (tgt := 2) hx hb dM_axis_27 (by decide) ?_
          exact ih (i + 1)  M_5 H locs ls (by omega) (hinv.step eM_5 rfl) (by omega) hP hS (lv_sub hl [0, 1, 2, 3] rfl)
        · skip
          refine lv_ldc2 (own := RM) (index := 92) (v := 65536) hx hb hown (hts _ w_425) dM_axis_16 ?_
          refine lv_goto (tgt := 23) hx hb dM_axis_19 (by decide) ?_
          refine ln_asl (if i % 5 = 0 then 65536 else 0) (by rw [if_pos ((nI_z (by omega)).mp c_13)]) ?_
          refine ln_last (L := 12) hx hb hE hI hP hS kc 3 (hkc) (fc _) rfl (by omega) (by decide) (((M1 kc).1, vp_updL (M1 kc).2 i (if i % 5 = 0 then 65536 else 0))) (fc _) dM_axis_23 (fun M_6 H locs eM_6 hP hS => ?_)
          refine lv_iinc (v := nI (i + 1)) (lv' := [(3, .int (nI (i + 1))), (0, .ref (ad kc)), (1, .int (nI 0)), (2, .int a)]) hx hb dM_axis_24 hl (k := 0) rfl (nI_add i 1) (by decide) rfl (fun ls hl => ?_)
          refine lv_goto (tgt := 2) hx hb dM_axis_27 (by decide) ?_
          exact ih (i + 1)  M_6 H locs ls (by omega) (hinv.step eM_6 rfl) (by omega) hP hS (lv_sub hl [0, 1, 2, 3] rfl)
  refine lv_iconst (v := nI 0) hx hb dM_axis_0 (by decide) ?_
  refine lv_istore_n (lv' := [(3, .int (nI 0)), (0, .ref (ad kc)), (1, .int (nI 0)), (2, .int a)]) hx hb dM_axis_1 rfl hl (by decide) rfl (fun ls hl => ?_)
  exact (loop 100000) 0  M s.heap [] ls (by omega) (⟨fun _ _ => rfl, fun t ht => by omega⟩) (by omega) hP hS (lv_sub hl [0, 1, 2, 3] rfl)

set_option maxHeartbeats 4000000 in
set_option maxRecDepth 100000 in
theorem kM_axis1 (l : Launch) (D : va_G) (cs : Nat → ClassId) (ad : Nat → Nat) (hI : bw_I ad 13) (M : Nat → mRow) (sz : Nat) (kc : Nat) (hkc : kc < 13) (fc : lc12 cs ad kc) (a : Int32)  : Met l yM_axis (wc yM_axis cM_axis 5 none) ({ frames := 2, cells := 0, slots := 0, locals := 45 } : Room) (va_Pc [.ref (ad kc), .int (nI 1), .int a] (mP D cs ad M sz)) (bQv D ad 13 (mc_cell cs ad) sz (fun M1 => (∀ x, x ≠ kc → M1 x = M x) ∧ lm (M1 kc) (jspin (fun _ => 0) 2 0 a))) 0 0 (bw_A ad 13 sz) := by
  refine Met.ofW (cc := cM_axis) (maxL := 5) (ret := none) (by decide +kernel) rfl ?_
  intro p e s m args below meth c s₁ B hml hv
  obtain ⟨rfl, hsz, hP, hE⟩ := hv
  subst hsz
  have hx := B.exec
  have hb := B.bytes
  have hr := B.returns
  have hts : ∀ w9 ∈ ws_all, w9.before ([.ref (ad kc), .int (nI 1), .int a] : List Value).toArray s = true := fun w9 h => atoms_spec (ws := (wc yM_axis cM_axis 5 none)) B.pre w9 (List.mem_cons_of_mem _ h)
  have hown : s.vm.findClass RM = some m.cls := findClass_of_methodNamed B.named
  have hlocks := B.notSynchronized
  have hS : va_S (bw_A ad 13 s.heap.size) s.heap s.heap [] := va_S.rf
  have hl := lv_entry ([.ref (ad kc), .int (nI 1), .int a]) (n := 5) (Nat.le_of_ble_eq_true rfl)
  rw [lg_entry_eq]
  generalize (lg_sl ([.ref (ad kc), .int (nI 1), .int a]) ++ List.replicate (5 - (lg_sl ([.ref (ad kc), .int (nI 1), .int a])).length) Slot.unset).toArray = ls at hl ⊢
  have hl : lv_has ls 5 [(0, .ref (ad kc)), (1, .int (nI 1)), (2, .int a)] := hl
  have loop : ∀ kf : Nat, (∀ (i : Nat)  (M1 : Nat → mRow) (H : Heap) (locs : List Loc) (ls : Array Slot), i ≤ 12 → dInv M M1 kc i → 12 - i < kf → va_P D cls3 (bw ad 13 (fun j => mc_cell cs ad j (M1 j))) H → va_S (bw_A ad 13 s.heap.size) s.heap H locs → lv_has ls 5 [(3, .int (nI i)), (0, .ref (ad kc)), (1, .int (nI 1)), (2, .int a)] → W p l e (headSpec (wc yM_axis cM_axis 5 none) ({ frames := 2, cells := 0, slots := 0, locals := 45 } : Room)).room s m ([.ref (ad kc), .int (nI 1), .int a] : List Value).toArray below meth c H locs 0 0 (MQ below (bQv D ad 13 (mc_cell cs ad) s.heap.size (fun M1 => (∀ x, x ≠ kc → M1 x = M x) ∧ lm (M1 kc) (jspin (fun _ => 0) 2 0 a))) ([.ref (ad kc), .int (nI 1), .int a] : List Value).toArray s 0 0 (bw_A ad 13 s.heap.size)) (F0 m 2 ls [])) := by
    intro kf
    induction kf with
    | zero => exact by intros; omega
    | succ kf ih =>
      intro i  M1 H locs ls hi hinv hmu hP hS hl
      refine lv_iload_n hx hb dM_axis_2 rfl (lv_at hl 0 rfl) ?_
      refine lv_bipush (v := nI 12) hx hb dM_axis_3 (by decide) ?_
      refine ln_icmp_ge (tgt := 30) hx hb dM_axis_5 (by decide) (by omega) (by omega) (fun c_5 => ?_) (fun c_5 => ?_)
      · skip
        refine lv_iload_n hx hb dM_axis_30 rfl (lv_at hl 2 rfl) ?_
        refine lv_if_ne (tgt := 38) hx hb dM_axis_31 (by decide) (fun c_31 => ?_) (fun c_31 => ?_)
        · skip
          refine lv_iload_n hx hb dM_axis_38 rfl (lv_at hl 2 rfl) ?_
          refine lv_iconst (v := nI 1) hx hb dM_axis_39 (by decide) ?_
          refine ln_icmp_ne (tgt := 47) hx hb dM_axis_40 (by decide) (by omega) (by omega) (fun c_40 => ?_) (fun c_40 => ?_)
          · skip
            exact absurd rfl c_40
          · skip
            refine lv_iconst (v := nI 2) hx hb dM_axis_43 (by decide) ?_
            refine lv_goto (tgt := 48) hx hb dM_axis_44 (by decide) ?_
            refine lv_istore_n (lv' := [(3, .int (nI 2)), (0, .ref (ad kc)), (1, .int (nI 1)), (2, .int a)]) hx hb dM_axis_48 rfl hl (by decide) rfl (fun ls hl => ?_)
            refine lv_iload_n hx hb dM_axis_49 rfl (lv_at hl 2 rfl) ?_
            refine lv_if_ne (tgt := 57) hx hb dM_axis_50 (by decide) (fun c_50 => ?_) (fun c_50 => ?_)
            · skip
              refine lv_iload_n hx hb dM_axis_57 rfl (lv_at hl 2 rfl) ?_
              refine lv_iconst (v := nI 1) hx hb dM_axis_58 (by decide) ?_
              refine ln_icmp_ne (tgt := 66) hx hb dM_axis_59 (by decide) (by omega) (by omega) (fun c_59 => ?_) (fun c_59 => ?_)
              · skip
                exact absurd rfl c_59
              · skip
                refine lv_iconst (v := nI 0) hx hb dM_axis_62 (by decide) ?_
                refine lv_goto (tgt := 67) hx hb dM_axis_63 (by decide) ?_
                refine lv_istore (lv' := [(4, .int (nI 0)), (3, .int (nI 2)), (0, .ref (ad kc)), (1, .int (nI 1)), (2, .int a)]) hx hb dM_axis_67 hl (by decide) rfl (fun ls hl => ?_)
                refine lv_aload_n hx hb dM_axis_69 rfl (lv_at hl 2 rfl) ?_
                refine lv_iconst (v := nI 4) hx hb dM_axis_70 (by decide) ?_
                refine lv_iload_n hx hb dM_axis_71 rfl (lv_at hl 1 rfl) ?_
                refine ln_imul hx hb dM_axis_72 ?_
                refine lv_iload_n hx hb dM_axis_73 rfl (lv_at hl 1 rfl) ?_
                refine ln_iadd hx hb dM_axis_74 ?_
                refine lv_iload_n hx hb dM_axis_75 rfl (lv_at hl 4 rfl) ?_
                refine vp_callSl (va_Run.run (bc_runS (own := RM) (As := [.int a]) (rest := [.int (nI ((4 * 2) + 2)), .ref (ad kc)]) hx hb (hml.trans hl.1.symm) hown hts (kM_cos l a) w_428 w_426 w_427 w_4 hd_M_cos rfl ⟨rfl, rfl⟩ ⟨Nat.le_of_ble_eq_true rfl, Nat.le_of_ble_eq_true rfl⟩ (fun _ _ _ _ _ => trivial) (fun _ _ _ => trivial) rfl (Nat.le_of_ble_eq_true rfl) dM_axis_76 ⟨Nat.le_of_ble_eq_true rfl, Nat.le_of_ble_eq_true rfl⟩)) (fun r_76 hr_76 => ?_)
                refine ln_asl ((jsin (a + nI 1024)).toInt64) (by exact hr_76) ?_
                refine ln_last (L := 12) hx hb hE hI hP hS kc 3 (hkc) (fc _) rfl (by omega) (by decide) (((M1 kc).1, vp_updL (M1 kc).2 ((4 * 2) + 2) ((jsin (a + nI 1024)).toInt64))) (fc _) dM_axis_79 (fun M_1 H locs eM_1 hP hS => ?_)
                refine lv_aload_n hx hb dM_axis_80 rfl (lv_at hl 2 rfl) ?_
                refine lv_iconst (v := nI 4) hx hb dM_axis_81 (by decide) ?_
                refine lv_iload_n hx hb dM_axis_82 rfl (lv_at hl 1 rfl) ?_
                refine ln_imul hx hb dM_axis_83 ?_
                refine lv_iload hx hb dM_axis_84 (lv_at hl 0 rfl) ?_
                refine ln_iadd hx hb dM_axis_86 ?_
                refine lv_iload_n hx hb dM_axis_87 rfl (lv_at hl 4 rfl) ?_
                refine vp_callSl (va_Run.run (bc_runS (own := RM) (As := [.int a]) (rest := [.int (nI ((4 * 2) + 0)), .ref (ad kc)]) hx hb (hml.trans hl.1.symm) hown hts (kM_sin l a) w_431 w_429 w_430 w_4 hd_M_sin rfl ⟨rfl, rfl⟩ ⟨Nat.le_of_ble_eq_true rfl, Nat.le_of_ble_eq_true rfl⟩ (fun _ _ _ _ _ => trivial) (fun _ _ _ => trivial) rfl (Nat.le_of_ble_eq_true rfl) dM_axis_88 ⟨Nat.le_of_ble_eq_true rfl, Nat.le_of_ble_eq_true rfl⟩)) (fun r_88 hr_88 => ?_)
                refine ln_asl ((jsin a).toInt64) (by exact hr_88) ?_
                refine lv_lneg hx hb dM_axis_91 ?_
                refine ln_last (L := 12) hx hb hE hI hP hS kc 3 (hkc) (fc _) rfl (by omega) (by decide) (((M_1 kc).1, vp_updL (M_1 kc).2 ((4 * 2) + 0) (-((jsin a).toInt64)))) (fc _) dM_axis_92 (fun M_2 H locs eM_2 hP hS => ?_)
                refine lv_aload_n hx hb dM_axis_93 rfl (lv_at hl 2 rfl) ?_
                refine lv_iconst (v := nI 4) hx hb dM_axis_94 (by decide) ?_
                refine lv_iload hx hb dM_axis_95 (lv_at hl 0 rfl) ?_
                refine ln_imul hx hb dM_axis_97 ?_
                refine lv_iload_n hx hb dM_axis_98 rfl (lv_at hl 1 rfl) ?_
                refine ln_iadd hx hb dM_axis_99 ?_
                refine lv_iload_n hx hb dM_axis_100 rfl (lv_at hl 4 rfl) ?_
                refine vp_callSl (va_Run.run (bc_runS (own := RM) (As := [.int a]) (rest := [.int (nI ((4 * 0) + 2)), .ref (ad kc)]) hx hb (hml.trans hl.1.symm) hown hts (kM_sin l a) w_431 w_429 w_430 w_4 hd_M_sin rfl ⟨rfl, rfl⟩ ⟨Nat.le_of_ble_eq_true rfl, Nat.le_of_ble_eq_true rfl⟩ (fun _ _ _ _ _ => trivial) (fun _ _ _ => trivial) rfl (Nat.le_of_ble_eq_true rfl) dM_axis_101 ⟨Nat.le_of_ble_eq_true rfl, Nat.le_of_ble_eq_true rfl⟩)) (fun r_101 hr_101 => ?_)
                refine ln_asl ((jsin a).toInt64) (by exact hr_101) ?_
                refine ln_last (L := 12) hx hb hE hI hP hS kc 3 (hkc) (fc _) rfl (by omega) (by decide) (((M_2 kc).1, vp_updL (M_2 kc).2 ((4 * 0) + 2) ((jsin a).toInt64))) (fc _) dM_axis_104 (fun M_3 H locs eM_3 hP hS => ?_)
                refine lv_aload_n hx hb dM_axis_105 rfl (lv_at hl 2 rfl) ?_
                refine lv_iconst (v := nI 4) hx hb dM_axis_106 (by decide) ?_
                refine lv_iload hx hb dM_axis_107 (lv_at hl 0 rfl) ?_
                refine ln_imul hx hb dM_axis_109 ?_
                refine lv_iload hx hb dM_axis_110 (lv_at hl 0 rfl) ?_
                refine ln_iadd hx hb dM_axis_112 ?_
                refine lv_iload_n hx hb dM_axis_113 rfl (lv_at hl 4 rfl) ?_
                refine vp_callSl (va_Run.run (bc_runS (own := RM) (As := [.int a]) (rest := [.int (nI ((4 * 0) + 0)), .ref (ad kc)]) hx hb (hml.trans hl.1.symm) hown hts (kM_cos l a) w_428 w_426 w_427 w_4 hd_M_cos rfl ⟨rfl, rfl⟩ ⟨Nat.le_of_ble_eq_true rfl, Nat.le_of_ble_eq_true rfl⟩ (fun _ _ _ _ _ => trivial) (fun _ _ _ => trivial) rfl (Nat.le_of_ble_eq_true rfl) dM_axis_114 ⟨Nat.le_of_ble_eq_true rfl, Nat.le_of_ble_eq_true rfl⟩)) (fun r_114 hr_114 => ?_)
                refine ln_asl ((jsin (a + nI 1024)).toInt64) (by exact hr_114) ?_
                refine ln_last (L := 12) hx hb hE hI hP hS kc 3 (hkc) (fc _) rfl (by omega) (by decide) (((M_3 kc).1, vp_updL (M_3 kc).2 ((4 * 0) + 0) ((jsin (a + nI 1024)).toInt64))) (fc _) dM_axis_117 (fun M_4 H locs eM_4 hP hS => ?_)
                exact W.vret hx hb hr (fun t ht hW => ⟨⟨M_4, rfl, axis_done (by decide) (by rw [show i = 12 by omega] at hinv; exact hinv) eM_1 eM_2 eM_3 eM_4, by show va_P _ _ _ t.heap; rw [ht]; exact hP⟩, hS.F ht⟩) hS.2.2 dM_axis_118
            · skip
              exact absurd c_50 (by decide)
        · skip
          exact absurd c_31 (by decide)
      · skip
        refine lv_aload_n hx hb dM_axis_8 rfl (lv_at hl 1 rfl) ?_
        refine lv_iload_n hx hb dM_axis_9 rfl (lv_at hl 0 rfl) ?_
        refine lv_iload_n hx hb dM_axis_10 rfl (lv_at hl 0 rfl) ?_
        refine lv_iconst (v := nI 5) hx hb dM_axis_11 (by decide) ?_
        refine lv_irem hx hb dM_axis_12 (by decide) ?_
        refine ln_asi (nI (i % 5)) (by exact pk_rem (by omega) (by decide) (by decide)) ?_
        refine lv_if_ne (tgt := 22) hx hb dM_axis_13 (by decide) (fun c_13 => ?_) (fun c_13 => ?_)
        · skip
          refine lv_lconst (v := 0) hx hb dM_axis_22 (by decide) ?_
          refine ln_asl (if i % 5 = 0 then 65536 else 0) (by rw [if_neg (fun z => c_13 ((nI_z (by omega)).mpr z))]) ?_
          refine ln_last (L := 12) hx hb hE hI hP hS kc 3 (hkc) (fc _) rfl (by omega) (by decide) (((M1 kc).1, vp_updL (M1 kc).2 i (if i % 5 = 0 then 65536 else 0))) (fc _) dM_axis_23 (fun M_5 H locs eM_5 hP hS => ?_)
          refine lv_iinc (v := nI (i + 1)) (lv' := [(3, .int (nI (i + 1))), (0, .ref (ad kc)), (1, .int (nI 1)), (2, .int a)]) hx hb dM_axis_24 hl (k := 0) rfl (nI_add i 1) (by decide) rfl (fun ls hl => ?_)
          refine lv_goto (tgt := 2) hx hb dM_axis_27 (by decide) ?_
          exact ih (i + 1)  M_5 H locs ls (by omega) (hinv.step eM_5 rfl) (by omega) hP hS (lv_sub hl [0, 1, 2, 3] rfl)
        · skip
          refine lv_ldc2 (own := RM) (index := 92) (v := 65536) hx hb hown (hts _ w_425) dM_axis_16 ?_
          refine lv_goto (tgt := 23) hx hb dM_axis_19 (by decide) ?_
          refine ln_asl (if i % 5 = 0 then 65536 else 0) (by rw [if_pos ((nI_z (by omega)).mp c_13)]) ?_
          refine ln_last (L := 12) hx hb hE hI hP hS kc 3 (hkc) (fc _) rfl (by omega) (by decide) (((M1 kc).1, vp_updL (M1 kc).2 i (if i % 5 = 0 then 65536 else 0))) (fc _) dM_axis_23 (fun M_6 H locs eM_6 hP hS => ?_)
          refine lv_iinc (v := nI (i + 1)) (lv' := [(3, .int (nI (i + 1))), (0, .ref (ad kc)), (1, .int (nI 1)), (2, .int a)]) hx hb dM_axis_24 hl (k := 0) rfl (nI_add i 1) (by decide) rfl (fun ls hl => ?_)
          refine lv_goto (tgt := 2) hx hb dM_axis_27 (by decide) ?_
          exact ih (i + 1)  M_6 H locs ls (by omega) (hinv.step eM_6 rfl) (by omega) hP hS (lv_sub hl [0, 1, 2, 3] rfl)
  refine lv_iconst (v := nI 0) hx hb dM_axis_0 (by decide) ?_
  refine lv_istore_n (lv' := [(3, .int (nI 0)), (0, .ref (ad kc)), (1, .int (nI 1)), (2, .int a)]) hx hb dM_axis_1 rfl hl (by decide) rfl (fun ls hl => ?_)
  exact (loop 100000) 0  M s.heap [] ls (by omega) (⟨fun _ _ => rfl, fun t ht => by omega⟩) (by omega) hP hS (lv_sub hl [0, 1, 2, 3] rfl)

set_option maxHeartbeats 4000000 in
set_option maxRecDepth 100000 in
theorem kM_axis2 (l : Launch) (D : va_G) (cs : Nat → ClassId) (ad : Nat → Nat) (hI : bw_I ad 13) (M : Nat → mRow) (sz : Nat) (kc : Nat) (hkc : kc < 13) (fc : lc12 cs ad kc) (a : Int32)  : Met l yM_axis (wc yM_axis cM_axis 5 none) ({ frames := 2, cells := 0, slots := 0, locals := 45 } : Room) (va_Pc [.ref (ad kc), .int (nI 2), .int a] (mP D cs ad M sz)) (bQv D ad 13 (mc_cell cs ad) sz (fun M1 => (∀ x, x ≠ kc → M1 x = M x) ∧ lm (M1 kc) (jspin (fun _ => 0) 0 1 a))) 0 0 (bw_A ad 13 sz) := by
  refine Met.ofW (cc := cM_axis) (maxL := 5) (ret := none) (by decide +kernel) rfl ?_
  intro p e s m args below meth c s₁ B hml hv
  obtain ⟨rfl, hsz, hP, hE⟩ := hv
  subst hsz
  have hx := B.exec
  have hb := B.bytes
  have hr := B.returns
  have hts : ∀ w9 ∈ ws_all, w9.before ([.ref (ad kc), .int (nI 2), .int a] : List Value).toArray s = true := fun w9 h => atoms_spec (ws := (wc yM_axis cM_axis 5 none)) B.pre w9 (List.mem_cons_of_mem _ h)
  have hown : s.vm.findClass RM = some m.cls := findClass_of_methodNamed B.named
  have hlocks := B.notSynchronized
  have hS : va_S (bw_A ad 13 s.heap.size) s.heap s.heap [] := va_S.rf
  have hl := lv_entry ([.ref (ad kc), .int (nI 2), .int a]) (n := 5) (Nat.le_of_ble_eq_true rfl)
  rw [lg_entry_eq]
  generalize (lg_sl ([.ref (ad kc), .int (nI 2), .int a]) ++ List.replicate (5 - (lg_sl ([.ref (ad kc), .int (nI 2), .int a])).length) Slot.unset).toArray = ls at hl ⊢
  have hl : lv_has ls 5 [(0, .ref (ad kc)), (1, .int (nI 2)), (2, .int a)] := hl
  have loop : ∀ kf : Nat, (∀ (i : Nat)  (M1 : Nat → mRow) (H : Heap) (locs : List Loc) (ls : Array Slot), i ≤ 12 → dInv M M1 kc i → 12 - i < kf → va_P D cls3 (bw ad 13 (fun j => mc_cell cs ad j (M1 j))) H → va_S (bw_A ad 13 s.heap.size) s.heap H locs → lv_has ls 5 [(3, .int (nI i)), (0, .ref (ad kc)), (1, .int (nI 2)), (2, .int a)] → W p l e (headSpec (wc yM_axis cM_axis 5 none) ({ frames := 2, cells := 0, slots := 0, locals := 45 } : Room)).room s m ([.ref (ad kc), .int (nI 2), .int a] : List Value).toArray below meth c H locs 0 0 (MQ below (bQv D ad 13 (mc_cell cs ad) s.heap.size (fun M1 => (∀ x, x ≠ kc → M1 x = M x) ∧ lm (M1 kc) (jspin (fun _ => 0) 0 1 a))) ([.ref (ad kc), .int (nI 2), .int a] : List Value).toArray s 0 0 (bw_A ad 13 s.heap.size)) (F0 m 2 ls [])) := by
    intro kf
    induction kf with
    | zero => exact by intros; omega
    | succ kf ih =>
      intro i  M1 H locs ls hi hinv hmu hP hS hl
      refine lv_iload_n hx hb dM_axis_2 rfl (lv_at hl 0 rfl) ?_
      refine lv_bipush (v := nI 12) hx hb dM_axis_3 (by decide) ?_
      refine ln_icmp_ge (tgt := 30) hx hb dM_axis_5 (by decide) (by omega) (by omega) (fun c_5 => ?_) (fun c_5 => ?_)
      · skip
        refine lv_iload_n hx hb dM_axis_30 rfl (lv_at hl 2 rfl) ?_
        refine lv_if_ne (tgt := 38) hx hb dM_axis_31 (by decide) (fun c_31 => ?_) (fun c_31 => ?_)
        · skip
          refine lv_iload_n hx hb dM_axis_38 rfl (lv_at hl 2 rfl) ?_
          refine lv_iconst (v := nI 1) hx hb dM_axis_39 (by decide) ?_
          refine ln_icmp_ne (tgt := 47) hx hb dM_axis_40 (by decide) (by omega) (by omega) (fun c_40 => ?_) (fun c_40 => ?_)
          · skip
            refine lv_iconst (v := nI 0) hx hb dM_axis_47 (by decide) ?_
            refine lv_istore_n (lv' := [(3, .int (nI 0)), (0, .ref (ad kc)), (1, .int (nI 2)), (2, .int a)]) hx hb dM_axis_48 rfl hl (by decide) rfl (fun ls hl => ?_)
            refine lv_iload_n hx hb dM_axis_49 rfl (lv_at hl 2 rfl) ?_
            refine lv_if_ne (tgt := 57) hx hb dM_axis_50 (by decide) (fun c_50 => ?_) (fun c_50 => ?_)
            · skip
              refine lv_iload_n hx hb dM_axis_57 rfl (lv_at hl 2 rfl) ?_
              refine lv_iconst (v := nI 1) hx hb dM_axis_58 (by decide) ?_
              refine ln_icmp_ne (tgt := 66) hx hb dM_axis_59 (by decide) (by omega) (by omega) (fun c_59 => ?_) (fun c_59 => ?_)
              · skip
                refine lv_iconst (v := nI 1) hx hb dM_axis_66 (by decide) ?_
                refine lv_istore (lv' := [(4, .int (nI 1)), (3, .int (nI 0)), (0, .ref (ad kc)), (1, .int (nI 2)), (2, .int a)]) hx hb dM_axis_67 hl (by decide) rfl (fun ls hl => ?_)
                refine lv_aload_n hx hb dM_axis_69 rfl (lv_at hl 2 rfl) ?_
                refine lv_iconst (v := nI 4) hx hb dM_axis_70 (by decide) ?_
                refine lv_iload_n hx hb dM_axis_71 rfl (lv_at hl 1 rfl) ?_
                refine ln_imul hx hb dM_axis_72 ?_
                refine lv_iload_n hx hb dM_axis_73 rfl (lv_at hl 1 rfl) ?_
                refine ln_iadd hx hb dM_axis_74 ?_
                refine lv_iload_n hx hb dM_axis_75 rfl (lv_at hl 4 rfl) ?_
                refine vp_callSl (va_Run.run (bc_runS (own := RM) (As := [.int a]) (rest := [.int (nI ((4 * 0) + 0)), .ref (ad kc)]) hx hb (hml.trans hl.1.symm) hown hts (kM_cos l a) w_428 w_426 w_427 w_4 hd_M_cos rfl ⟨rfl, rfl⟩ ⟨Nat.le_of_ble_eq_true rfl, Nat.le_of_ble_eq_true rfl⟩ (fun _ _ _ _ _ => trivial) (fun _ _ _ => trivial) rfl (Nat.le_of_ble_eq_true rfl) dM_axis_76 ⟨Nat.le_of_ble_eq_true rfl, Nat.le_of_ble_eq_true rfl⟩)) (fun r_76 hr_76 => ?_)
                refine ln_asl ((jsin (a + nI 1024)).toInt64) (by exact hr_76) ?_
                refine ln_last (L := 12) hx hb hE hI hP hS kc 3 (hkc) (fc _) rfl (by omega) (by decide) (((M1 kc).1, vp_updL (M1 kc).2 ((4 * 0) + 0) ((jsin (a + nI 1024)).toInt64))) (fc _) dM_axis_79 (fun M_1 H locs eM_1 hP hS => ?_)
                refine lv_aload_n hx hb dM_axis_80 rfl (lv_at hl 2 rfl) ?_
                refine lv_iconst (v := nI 4) hx hb dM_axis_81 (by decide) ?_
                refine lv_iload_n hx hb dM_axis_82 rfl (lv_at hl 1 rfl) ?_
                refine ln_imul hx hb dM_axis_83 ?_
                refine lv_iload hx hb dM_axis_84 (lv_at hl 0 rfl) ?_
                refine ln_iadd hx hb dM_axis_86 ?_
                refine lv_iload_n hx hb dM_axis_87 rfl (lv_at hl 4 rfl) ?_
                refine vp_callSl (va_Run.run (bc_runS (own := RM) (As := [.int a]) (rest := [.int (nI ((4 * 0) + 1)), .ref (ad kc)]) hx hb (hml.trans hl.1.symm) hown hts (kM_sin l a) w_431 w_429 w_430 w_4 hd_M_sin rfl ⟨rfl, rfl⟩ ⟨Nat.le_of_ble_eq_true rfl, Nat.le_of_ble_eq_true rfl⟩ (fun _ _ _ _ _ => trivial) (fun _ _ _ => trivial) rfl (Nat.le_of_ble_eq_true rfl) dM_axis_88 ⟨Nat.le_of_ble_eq_true rfl, Nat.le_of_ble_eq_true rfl⟩)) (fun r_88 hr_88 => ?_)
                refine ln_asl ((jsin a).toInt64) (by exact hr_88) ?_
                refine lv_lneg hx hb dM_axis_91 ?_
                refine ln_last (L := 12) hx hb hE hI hP hS kc 3 (hkc) (fc _) rfl (by omega) (by decide) (((M_1 kc).1, vp_updL (M_1 kc).2 ((4 * 0) + 1) (-((jsin a).toInt64)))) (fc _) dM_axis_92 (fun M_2 H locs eM_2 hP hS => ?_)
                refine lv_aload_n hx hb dM_axis_93 rfl (lv_at hl 2 rfl) ?_
                refine lv_iconst (v := nI 4) hx hb dM_axis_94 (by decide) ?_
                refine lv_iload hx hb dM_axis_95 (lv_at hl 0 rfl) ?_
                refine ln_imul hx hb dM_axis_97 ?_
                refine lv_iload_n hx hb dM_axis_98 rfl (lv_at hl 1 rfl) ?_
                refine ln_iadd hx hb dM_axis_99 ?_
                refine lv_iload_n hx hb dM_axis_100 rfl (lv_at hl 4 rfl) ?_
                refine vp_callSl (va_Run.run (bc_runS (own := RM) (As := [.int a]) (rest := [.int (nI ((4 * 1) + 0)), .ref (ad kc)]) hx hb (hml.trans hl.1.symm) hown hts (kM_sin l a) w_431 w_429 w_430 w_4 hd_M_sin rfl ⟨rfl, rfl⟩ ⟨Nat.le_of_ble_eq_true rfl, Nat.le_of_ble_eq_true rfl⟩ (fun _ _ _ _ _ => trivial) (fun _ _ _ => trivial) rfl (Nat.le_of_ble_eq_true rfl) dM_axis_101 ⟨Nat.le_of_ble_eq_true rfl, Nat.le_of_ble_eq_true rfl⟩)) (fun r_101 hr_101 => ?_)
                refine ln_asl ((jsin a).toInt64) (by exact hr_101) ?_
                refine ln_last (L := 12) hx hb hE hI hP hS kc 3 (hkc) (fc _) rfl (by omega) (by decide) (((M_2 kc).1, vp_updL (M_2 kc).2 ((4 * 1) + 0) ((jsin a).toInt64))) (fc _) dM_axis_104 (fun M_3 H locs eM_3 hP hS => ?_)
                refine lv_aload_n hx hb dM_axis_105 rfl (lv_at hl 2 rfl) ?_
                refine lv_iconst (v := nI 4) hx hb dM_axis_106 (by decide) ?_
                refine lv_iload hx hb dM_axis_107 (lv_at hl 0 rfl) ?_
                refine ln_imul hx hb dM_axis_109 ?_
                refine lv_iload hx hb dM_axis_110 (lv_at hl 0 rfl) ?_
                refine ln_iadd hx hb dM_axis_112 ?_
                refine lv_iload_n hx hb dM_axis_113 rfl (lv_at hl 4 rfl) ?_
                refine vp_callSl (va_Run.run (bc_runS (own := RM) (As := [.int a]) (rest := [.int (nI ((4 * 1) + 1)), .ref (ad kc)]) hx hb (hml.trans hl.1.symm) hown hts (kM_cos l a) w_428 w_426 w_427 w_4 hd_M_cos rfl ⟨rfl, rfl⟩ ⟨Nat.le_of_ble_eq_true rfl, Nat.le_of_ble_eq_true rfl⟩ (fun _ _ _ _ _ => trivial) (fun _ _ _ => trivial) rfl (Nat.le_of_ble_eq_true rfl) dM_axis_114 ⟨Nat.le_of_ble_eq_true rfl, Nat.le_of_ble_eq_true rfl⟩)) (fun r_114 hr_114 => ?_)
                refine ln_asl ((jsin (a + nI 1024)).toInt64) (by exact hr_114) ?_
                refine ln_last (L := 12) hx hb hE hI hP hS kc 3 (hkc) (fc _) rfl (by omega) (by decide) (((M_3 kc).1, vp_updL (M_3 kc).2 ((4 * 1) + 1) ((jsin (a + nI 1024)).toInt64))) (fc _) dM_axis_117 (fun M_4 H locs eM_4 hP hS => ?_)
                exact W.vret hx hb hr (fun t ht hW => ⟨⟨M_4, rfl, axis_done (by decide) (by rw [show i = 12 by omega] at hinv; exact hinv) eM_1 eM_2 eM_3 eM_4, by show va_P _ _ _ t.heap; rw [ht]; exact hP⟩, hS.F ht⟩) hS.2.2 dM_axis_118
              · skip
                exact absurd c_59 (by decide)
            · skip
              exact absurd c_50 (by decide)
          · skip
            exact absurd c_40 (by decide)
        · skip
          exact absurd c_31 (by decide)
      · skip
        refine lv_aload_n hx hb dM_axis_8 rfl (lv_at hl 1 rfl) ?_
        refine lv_iload_n hx hb dM_axis_9 rfl (lv_at hl 0 rfl) ?_
        refine lv_iload_n hx hb dM_axis_10 rfl (lv_at hl 0 rfl) ?_
        refine lv_iconst (v := nI 5) hx hb dM_axis_11 (by decide) ?_
        refine lv_irem hx hb dM_axis_12 (by decide) ?_
        refine ln_asi (nI (i % 5)) (by exact pk_rem (by omega) (by decide) (by decide)) ?_
        refine lv_if_ne (tgt := 22) hx hb dM_axis_13 (by decide) (fun c_13 => ?_) (fun c_13 => ?_)
        · skip
          refine lv_lconst (v := 0) hx hb dM_axis_22 (by decide) ?_
          refine ln_asl (if i % 5 = 0 then 65536 else 0) (by rw [if_neg (fun z => c_13 ((nI_z (by omega)).mpr z))]) ?_
          refine ln_last (L := 12) hx hb hE hI hP hS kc 3 (hkc) (fc _) rfl (by omega) (by decide) (((M1 kc).1, vp_updL (M1 kc).2 i (if i % 5 = 0 then 65536 else 0))) (fc _) dM_axis_23 (fun M_5 H locs eM_5 hP hS => ?_)
          refine lv_iinc (v := nI (i + 1)) (lv' := [(3, .int (nI (i + 1))), (0, .ref (ad kc)), (1, .int (nI 2)), (2, .int a)]) hx hb dM_axis_24 hl (k := 0) rfl (nI_add i 1) (by decide) rfl (fun ls hl => ?_)
          refine lv_goto (tgt := 2) hx hb dM_axis_27 (by decide) ?_
          exact ih (i + 1)  M_5 H locs ls (by omega) (hinv.step eM_5 rfl) (by omega) hP hS (lv_sub hl [0, 1, 2, 3] rfl)
        · skip
          refine lv_ldc2 (own := RM) (index := 92) (v := 65536) hx hb hown (hts _ w_425) dM_axis_16 ?_
          refine lv_goto (tgt := 23) hx hb dM_axis_19 (by decide) ?_
          refine ln_asl (if i % 5 = 0 then 65536 else 0) (by rw [if_pos ((nI_z (by omega)).mp c_13)]) ?_
          refine ln_last (L := 12) hx hb hE hI hP hS kc 3 (hkc) (fc _) rfl (by omega) (by decide) (((M1 kc).1, vp_updL (M1 kc).2 i (if i % 5 = 0 then 65536 else 0))) (fc _) dM_axis_23 (fun M_6 H locs eM_6 hP hS => ?_)
          refine lv_iinc (v := nI (i + 1)) (lv' := [(3, .int (nI (i + 1))), (0, .ref (ad kc)), (1, .int (nI 2)), (2, .int a)]) hx hb dM_axis_24 hl (k := 0) rfl (nI_add i 1) (by decide) rfl (fun ls hl => ?_)
          refine lv_goto (tgt := 2) hx hb dM_axis_27 (by decide) ?_
          exact ih (i + 1)  M_6 H locs ls (by omega) (hinv.step eM_6 rfl) (by omega) hP hS (lv_sub hl [0, 1, 2, 3] rfl)
  refine lv_iconst (v := nI 0) hx hb dM_axis_0 (by decide) ?_
  refine lv_istore_n (lv' := [(3, .int (nI 0)), (0, .ref (ad kc)), (1, .int (nI 2)), (2, .int a)]) hx hb dM_axis_1 rfl hl (by decide) rfl (fun ls hl => ?_)
  exact (loop 100000) 0  M s.heap [] ls (by omega) (⟨fun _ _ => rfl, fun t ht => by omega⟩) (by omega) hP hS (lv_sub hl [0, 1, 2, 3] rfl)

set_option maxHeartbeats 4000000 in
set_option maxRecDepth 100000 in
theorem kM_turn (l : Launch) (D : va_G) (cs : Nat → ClassId) (ad : Nat → Nat) (hI : bw_I ad 13) (M : Nat → mRow) (sz : Nat) (u : Nat) (hu : u + 3 ≤ 441)  : Met l yM_turn (wc yM_turn cM_turn 2 none) ({ frames := 3, cells := 0, slots := 0, locals := 69 } : Room) (va_Pc [.ref (ad 0), .int (nI u)] (mP D cs ad M sz)) (bQv D ad 13 (mc_cell cs ad) sz (fun M1 => (∀ q, (q < 7 ∨ 11 ≤ q) → M1 q = M q) ∧ lm (M1 10) (jturn ((M 4).1 u) ((M 4).1 (u + 1)) ((M 4).1 (u + 2))))) 0 0 (bw_A ad 13 sz) := by
  refine Met.ofW (cc := cM_turn) (maxL := 2) (ret := none) (by decide +kernel) rfl ?_
  intro p e s m args below meth c s₁ B hml hv
  obtain ⟨rfl, hsz, hP, hE⟩ := hv
  subst hsz
  have hx := B.exec
  have hb := B.bytes
  have hr := B.returns
  have hts : ∀ w9 ∈ ws_all, w9.before ([.ref (ad 0), .int (nI u)] : List Value).toArray s = true := fun w9 h => atoms_spec (ws := (wc yM_turn cM_turn 2 none)) B.pre w9 (List.mem_cons_of_mem _ h)
  have hown : s.vm.findClass RM = some m.cls := findClass_of_methodNamed B.named
  have hlocks := B.notSynchronized
  have hS : va_S (bw_A ad 13 s.heap.size) s.heap s.heap [] := va_S.rf
  have hl := lv_entry ([.ref (ad 0), .int (nI u)]) (n := 2) (Nat.le_of_ble_eq_true rfl)
  rw [lg_entry_eq]
  generalize (lg_sl ([.ref (ad 0), .int (nI u)]) ++ List.replicate (2 - (lg_sl ([.ref (ad 0), .int (nI u)])).length) Slot.unset).toArray = ls at hl ⊢
  have hl : lv_has ls 2 [(0, .ref (ad 0)), (1, .int (nI u))] := hl
  have hu0 := hu
  refine lv_aload_n hx hb dM_turn_0 rfl (lv_at hl 0 rfl) ?_
  refine bw_get (own := RM) (ci := 2) (C := RM) (T := TM) (N := 14) (v := .ref (ad 8)) hx hb hts inM hown hE hP 0 (by decide) rfl rfl 9 (by decide) w_325 rfl rfl dM_turn_1 ?_
  refine lv_iconst (v := nI 1) hx hb dM_turn_4 (by decide) ?_
  refine lv_aload_n hx hb dM_turn_5 rfl (lv_at hl 0 rfl) ?_
  refine bw_get (own := RM) (ci := 2) (C := RM) (T := TM) (N := 14) (v := .ref (ad 4)) hx hb hts inM hown hE hP 0 (by decide) rfl rfl 5 (by decide) w_321 rfl rfl dM_turn_6 ?_
  refine lv_iload_n hx hb dM_turn_9 rfl (lv_at hl 1 rfl) ?_
  refine lv_iconst (v := nI 1) hx hb dM_turn_10 (by decide) ?_
  refine ln_iadd hx hb dM_turn_11 ?_
  refine ln_iald (L := 441) (g := (M 4).1) hx hb hE hP 4 0 (by decide) (rfl) rfl (by omega) (by decide) dM_turn_12 ?_
  refine bc_callv (bc_runS (own := RM) (As := [.ref (ad 8), .int (nI 1), .int ((M 4).1 (u + 1))]) (rest := []) hx hb (hml.trans hl.1.symm) hown hts (kM_axis1 l D cs ad hI M s.heap.size 8 (by decide) (fun _ => rfl) ((M 4).1 (u + 1))) w_424 w_422 w_423 w_4 hd_M_axis rfl ⟨rfl, rfl⟩ ⟨Nat.le_of_ble_eq_true rfl, Nat.le_of_ble_eq_true rfl⟩ (fun _ _ _ _ h => h.calling) (fun U hU hW => ⟨by rw [hU], by rw [hU]; exact hP, hE.warm hW⟩) rfl (Nat.le_of_ble_eq_true rfl) dM_turn_13 ⟨Nat.le_of_ble_eq_true rfl, Nat.le_of_ble_eq_true rfl⟩) hS (fun M_1 H locs hr_13 hP hS => ?_)
  refine lv_aload_n hx hb dM_turn_16 rfl (lv_at hl 0 rfl) ?_
  refine bw_get (own := RM) (ci := 2) (C := RM) (T := TM) (N := 14) (v := .ref (ad 9)) hx hb hts inM hown hE hP 0 (by decide) rfl rfl 10 (by decide) w_326 rfl rfl dM_turn_17 ?_
  refine lv_iconst (v := nI 0) hx hb dM_turn_20 (by decide) ?_
  refine lv_aload_n hx hb dM_turn_21 rfl (lv_at hl 0 rfl) ?_
  refine bw_get (own := RM) (ci := 2) (C := RM) (T := TM) (N := 14) (v := .ref (ad 4)) hx hb hts inM hown hE hP 0 (by decide) rfl rfl 5 (by decide) w_321 rfl rfl dM_turn_22 ?_
  refine lv_iload_n hx hb dM_turn_25 rfl (lv_at hl 1 rfl) ?_
  refine ln_iald (L := 441) (g := (M_1 4).1) hx hb hE hP 4 0 (by decide) (rfl) rfl (by omega) (by decide) dM_turn_26 ?_
  refine bc_callv (bc_runS (own := RM) (As := [.ref (ad 9), .int (nI 0), .int ((M_1 4).1 u)]) (rest := []) hx hb (hml.trans hl.1.symm) hown hts (kM_axis0 l D cs ad hI M_1 H.size 9 (by decide) (fun _ => rfl) ((M_1 4).1 u)) w_424 w_422 w_423 w_4 hd_M_axis rfl ⟨rfl, rfl⟩ ⟨Nat.le_of_ble_eq_true rfl, Nat.le_of_ble_eq_true rfl⟩ (fun _ _ _ _ h => h.calling) (fun U hU hW => ⟨by rw [hU], by rw [hU]; exact hP, hE.warm hW⟩) rfl (Nat.le_of_ble_eq_true rfl) dM_turn_27 ⟨Nat.le_of_ble_eq_true rfl, Nat.le_of_ble_eq_true rfl⟩) hS (fun M_2 H locs hr_27 hP hS => ?_)
  refine lv_aload_n hx hb dM_turn_30 rfl (lv_at hl 0 rfl) ?_
  refine bc_callv (bc_runV (own := RM) (C := RM) (As := []) (rest := []) hx hb (hml.trans hl.1.symm) hown hts (kM_times l D cs ad hI M_2 H.size (jspin (fun _ => 0) 2 0 ((M 4).1 (u + 1))) (jspin (fun _ => 0) 1 2 ((M 4).1 u)) (by rw [hr_27.1 8 (by decide)]; exact hr_13.2) (by rw [← hr_13.1 4 (by decide)]; exact hr_27.2)) w_438 w_435 w_437 ws_sel_M_times w_4 ⟨rfl, hd_M_times⟩ rfl ⟨rfl, rfl⟩ ⟨Nat.le_of_ble_eq_true rfl, Nat.le_of_ble_eq_true rfl⟩ (fun _ _ _ _ h => h.calling) (bc_recv (r := (RM, TM, 14)) hE hP 0 (by decide) rfl rfl) (fun U hU hW => ⟨by rw [hU], by rw [hU]; exact hP, hE.warm hW⟩) rfl (Nat.le_of_ble_eq_true rfl) dM_turn_31 ⟨Nat.le_of_ble_eq_true rfl, Nat.le_of_ble_eq_true rfl⟩) hS (fun M_3 H locs hr_31 hP hS => ?_)
  refine lv_aload_n hx hb dM_turn_34 rfl (lv_at hl 0 rfl) ?_
  refine bw_get (own := RM) (ci := 2) (C := RM) (T := TM) (N := 14) (v := .ref (ad 7)) hx hb hts inM hown hE hP 0 (by decide) rfl rfl 8 (by decide) w_324 rfl rfl dM_turn_35 ?_
  refine lv_aload_n hx hb dM_turn_38 rfl (lv_at hl 0 rfl) ?_
  refine bw_get (own := RM) (ci := 2) (C := RM) (T := TM) (N := 14) (v := .ref (ad 8)) hx hb hts inM hown hE hP 0 (by decide) rfl rfl 9 (by decide) w_325 rfl rfl dM_turn_39 ?_
  refine bc_callv (bc_runS (own := RM) (As := [.ref (ad 7), .ref (ad 8)]) (rest := []) hx hb (hml.trans hl.1.symm) hown hts (kM_copy l D cs ad hI M_3 H.size 7 8 (by decide) (by decide) (fun _ => rfl) (fun _ => rfl) (by decide)) w_449 w_447 w_448 w_4 hd_M_copy rfl ⟨rfl, rfl⟩ ⟨Nat.le_of_ble_eq_true rfl, Nat.le_of_ble_eq_true rfl⟩ (fun _ _ _ _ h => h.calling) (fun U hU hW => ⟨by rw [hU], by rw [hU]; exact hP, hE.warm hW⟩) rfl (Nat.le_of_ble_eq_true rfl) dM_turn_42 ⟨Nat.le_of_ble_eq_true rfl, Nat.le_of_ble_eq_true rfl⟩) hS (fun M_4 H locs hr_42 hP hS => ?_)
  refine lv_aload_n hx hb dM_turn_45 rfl (lv_at hl 0 rfl) ?_
  refine bw_get (own := RM) (ci := 2) (C := RM) (T := TM) (N := 14) (v := .ref (ad 9)) hx hb hts inM hown hE hP 0 (by decide) rfl rfl 10 (by decide) w_326 rfl rfl dM_turn_46 ?_
  refine lv_iconst (v := nI 2) hx hb dM_turn_49 (by decide) ?_
  refine lv_aload_n hx hb dM_turn_50 rfl (lv_at hl 0 rfl) ?_
  refine bw_get (own := RM) (ci := 2) (C := RM) (T := TM) (N := 14) (v := .ref (ad 4)) hx hb hts inM hown hE hP 0 (by decide) rfl rfl 5 (by decide) w_321 rfl rfl dM_turn_51 ?_
  refine lv_iload_n hx hb dM_turn_54 rfl (lv_at hl 1 rfl) ?_
  refine lv_iconst (v := nI 2) hx hb dM_turn_55 (by decide) ?_
  refine ln_iadd hx hb dM_turn_56 ?_
  refine ln_iald (L := 441) (g := (M_4 4).1) hx hb hE hP 4 0 (by decide) (rfl) rfl (by omega) (by decide) dM_turn_57 ?_
  refine bc_callv (bc_runS (own := RM) (As := [.ref (ad 9), .int (nI 2), .int ((M_4 4).1 (u + 2))]) (rest := []) hx hb (hml.trans hl.1.symm) hown hts (kM_axis2 l D cs ad hI M_4 H.size 9 (by decide) (fun _ => rfl) ((M_4 4).1 (u + 2))) w_424 w_422 w_423 w_4 hd_M_axis rfl ⟨rfl, rfl⟩ ⟨Nat.le_of_ble_eq_true rfl, Nat.le_of_ble_eq_true rfl⟩ (fun _ _ _ _ h => h.calling) (fun U hU hW => ⟨by rw [hU], by rw [hU]; exact hP, hE.warm hW⟩) rfl (Nat.le_of_ble_eq_true rfl) dM_turn_58 ⟨Nat.le_of_ble_eq_true rfl, Nat.le_of_ble_eq_true rfl⟩) hS (fun M_5 H locs hr_58 hP hS => ?_)
  have h4 : (M_4 4).1 = (M 4).1 := by rw [hr_42.1 4 (by decide), hr_31.1 4 (by decide), hr_27.1 4 (by decide), hr_13.1 4 (by decide)]
  refine lv_aload_n hx hb dM_turn_61 rfl (lv_at hl 0 rfl) ?_
  refine bc_callv (bc_runV (own := RM) (C := RM) (As := []) (rest := []) hx hb (hml.trans hl.1.symm) hown hts (kM_times l D cs ad hI M_5 H.size (jmat (jspin (fun _ => 0) 2 0 ((M 4).1 (u + 1))) (jspin (fun _ => 0) 1 2 ((M 4).1 u))) (jspin (fun _ => 0) 0 1 ((M 4).1 (u + 2))) (by rw [hr_58.1 8 (by decide)]; exact hr_42.lm hr_31.2) (by rw [← h4]; exact hr_58.2)) w_438 w_435 w_437 ws_sel_M_times w_4 ⟨rfl, hd_M_times⟩ rfl ⟨rfl, rfl⟩ ⟨Nat.le_of_ble_eq_true rfl, Nat.le_of_ble_eq_true rfl⟩ (fun _ _ _ _ h => h.calling) (bc_recv (r := (RM, TM, 14)) hE hP 0 (by decide) rfl rfl) (fun U hU hW => ⟨by rw [hU], by rw [hU]; exact hP, hE.warm hW⟩) rfl (Nat.le_of_ble_eq_true rfl) dM_turn_62 ⟨Nat.le_of_ble_eq_true rfl, Nat.le_of_ble_eq_true rfl⟩) hS (fun M_6 H locs hr_62 hP hS => ?_)
  refine lv_aload_n hx hb dM_turn_65 rfl (lv_at hl 0 rfl) ?_
  refine bw_get (own := RM) (ci := 2) (C := RM) (T := TM) (N := 14) (v := .ref (ad 7)) hx hb hts inM hown hE hP 0 (by decide) rfl rfl 8 (by decide) w_324 rfl rfl dM_turn_66 ?_
  refine lv_aload_n hx hb dM_turn_69 rfl (lv_at hl 0 rfl) ?_
  refine bw_get (own := RM) (ci := 2) (C := RM) (T := TM) (N := 14) (v := .ref (ad 10)) hx hb hts inM hown hE hP 0 (by decide) rfl rfl 11 (by decide) w_327 rfl rfl dM_turn_70 ?_
  refine bc_callv (bc_runS (own := RM) (As := [.ref (ad 7), .ref (ad 10)]) (rest := []) hx hb (hml.trans hl.1.symm) hown hts (kM_copy l D cs ad hI M_6 H.size 7 10 (by decide) (by decide) (fun _ => rfl) (fun _ => rfl) (by decide)) w_449 w_447 w_448 w_4 hd_M_copy rfl ⟨rfl, rfl⟩ ⟨Nat.le_of_ble_eq_true rfl, Nat.le_of_ble_eq_true rfl⟩ (fun _ _ _ _ h => h.calling) (fun U hU hW => ⟨by rw [hU], by rw [hU]; exact hP, hE.warm hW⟩) rfl (Nat.le_of_ble_eq_true rfl) dM_turn_73 ⟨Nat.le_of_ble_eq_true rfl, Nat.le_of_ble_eq_true rfl⟩) hS (fun M_7 H locs hr_73 hP hS => ?_)
  exact W.vret hx hb hr (fun t ht hW => ⟨⟨M_7, rfl, ⟨fun q hq => by rw [hr_73.1 q (by omega), hr_62.1 q (by omega), hr_58.1 q (by omega), hr_42.1 q (by omega), hr_31.1 q (by omega), hr_27.1 q (by omega), hr_13.1 q (by omega)], hr_73.lm hr_62.2⟩, by show va_P _ _ _ t.heap; rw [ht]; exact hP⟩, hS.F ht⟩) hS.2.2 dM_turn_76
end
section
/-! THE REFERENCE: LOCAL, WORLD, MODEL -/
/-- a node's nine numbers in the reference -/
def rU (M : Nat → mRow) (n : Nat) : Nat → Int32 := fun j => (M 4).1 (9 * n + j)
def rE (M : Nat → mRow) : Nat → Int32 := fun j => (M 4).1 (432 + j)
theorem jlc_l {T u : Nat → Int32} {i j : Nat} (hj : j ≠ 3) : (jlc T u i j).toInt64 = jcl (jmul (T (4 * i + j)).toInt64 (u (6 + j)).toInt64) := by
  unfold jlc
  rw [if_neg hj, jcl_back]
/-- the way up from d -/
def jpt (par : Nat → Int32) (d : Nat) : Nat → Nat
  | 0 => d
  | i + 1 => (par (jpt par d i)).toNatClampNeg
theorem jpt_next {par : Nat → Int32} {d n q : Nat} (h : par (jpt par d n) = nI q) (hq : q < 2147483648) : jpt par d (n + 1) = q := by
  show (par (jpt par d n)).toNatClampNeg = q
  rw [h, nI_clamp hq]
/-- the way laid down: n steps of it -/
def wInv (M M1 : Nat → mRow) (d n : Nat) : Prop := (∀ q, q ≠ 5 → M1 q = M q) ∧ ∀ i, i < n → (M1 5).1 i = nI (jpt (M 1).1 d i)
theorem wInv.step {M M1 M2 : Nat → mRow} {d n : Nat} (h : wInv M M1 d n) (e : M2 = va_up M1 5 (upd (M1 5).1 n (nI (jpt (M 1).1 d n)), (M1 5).2)) : wInv M M2 d (n + 1) := by
  subst e
  refine ⟨fun q hq => by rw [va_up_ne _ _ hq]; exact h.1 q hq, fun i hi => ?_⟩
  rw [va_up_self]
  by_cases c : i = n
  · subst c; rw [m_us]
  · rw [m_un c]; exact h.2 i (by omega)
/-- going down: made is WORLD of the node at place k + 1 of the way -/
def gInv (M M1 : Nat → mRow) (d n k : Nat) : Prop := (∀ q, (q < 5 ∨ q = 6) → M1 q = M q) ∧ (∀ i, i < n + 1 → (M1 5).1 i = nI (jpt (M 1).1 d i)) ∧ lm (M1 7) (jworld (M 1).1 (fun n => jlocal (rU M n)) (jpt (M 1).1 d k))

set_option maxHeartbeats 4000000 in
set_option maxRecDepth 100000 in
theorem kM_makesLocal (l : Launch) (D : va_G) (cs : Nat → ClassId) (ad : Nat → Nat) (hI : bw_I ad 13) (M : Nat → mRow) (sz : Nat) (d : Nat) (hd : d < 48)  : Met l yM_makesLocal (wc yM_makesLocal cM_makesLocal 4 none) ({ frames := 4, cells := 0, slots := 0, locals := 90 } : Room) (va_Pc [.ref (ad 0), .int (nI d)] (mP D cs ad M sz)) (bQv D ad 13 (mc_cell cs ad) sz (fun M1 => (∀ q, (q < 7 ∨ 12 ≤ q) → M1 q = M q) ∧ lm (M1 11) (jlocal (rU M d)))) 0 0 (bw_A ad 13 sz) := by
  refine Met.ofW (cc := cM_makesLocal) (maxL := 4) (ret := none) (by decide +kernel) rfl ?_
  intro p e s m args below meth c s₁ B hml hv
  obtain ⟨rfl, hsz, hP, hE⟩ := hv
  subst hsz
  have hx := B.exec
  have hb := B.bytes
  have hr := B.returns
  have hts : ∀ w9 ∈ ws_all, w9.before ([.ref (ad 0), .int (nI d)] : List Value).toArray s = true := fun w9 h => atoms_spec (ws := (wc yM_makesLocal cM_makesLocal 4 none)) B.pre w9 (List.mem_cons_of_mem _ h)
  have hown : s.vm.findClass RM = some m.cls := findClass_of_methodNamed B.named
  have hlocks := B.notSynchronized
  have hS : va_S (bw_A ad 13 s.heap.size) s.heap s.heap [] := va_S.rf
  have hl := lv_entry ([.ref (ad 0), .int (nI d)]) (n := 4) (Nat.le_of_ble_eq_true rfl)
  rw [lg_entry_eq]
  generalize (lg_sl ([.ref (ad 0), .int (nI d)]) ++ List.replicate (4 - (lg_sl ([.ref (ad 0), .int (nI d)])).length) Slot.unset).toArray = ls at hl ⊢
  have hl : lv_has ls 4 [(0, .ref (ad 0)), (1, .int (nI d))] := hl
  refine lv_aload_n hx hb dM_makesLocal_0 rfl (lv_at hl 0 rfl) ?_
  refine lv_bipush (v := nI 9) hx hb dM_makesLocal_1 (by decide) ?_
  refine lv_iload_n hx hb dM_makesLocal_3 rfl (lv_at hl 1 rfl) ?_
  refine ln_imul hx hb dM_makesLocal_4 ?_
  refine lv_iconst (v := nI 3) hx hb dM_makesLocal_5 (by decide) ?_
  refine ln_iadd hx hb dM_makesLocal_6 ?_
  refine bc_callv (bc_runV (own := RM) (C := RM) (As := [.int (nI ((9 * d) + 3))]) (rest := []) hx hb (hml.trans hl.1.symm) hown hts (kM_turn l D cs ad hI M s.heap.size (9 * d + 3) (by omega)) w_421 w_418 w_420 ws_sel_M_turn w_4 ⟨rfl, hd_M_turn⟩ rfl ⟨rfl, rfl⟩ ⟨Nat.le_of_ble_eq_true rfl, Nat.le_of_ble_eq_true rfl⟩ (fun _ _ _ _ h => h.calling) (bc_recv (r := (RM, TM, 14)) hE hP 0 (by decide) rfl rfl) (fun U hU hW => ⟨by rw [hU], by rw [hU]; exact hP, hE.warm hW⟩) rfl (Nat.le_of_ble_eq_true rfl) dM_makesLocal_7 ⟨Nat.le_of_ble_eq_true rfl, Nat.le_of_ble_eq_true rfl⟩) hS (fun M_1 H locs hr_7 hP hS => ?_)
  refine lv_iconst (v := nI 0) hx hb dM_makesLocal_10 (by decide) ?_
  refine lv_istore_n (lv' := [(2, .int (nI 0)), (0, .ref (ad 0)), (1, .int (nI d))]) hx hb dM_makesLocal_11 rfl hl (by decide) rfl (fun ls hl => ?_)
  have loop : ∀ kf : Nat, (∀ (i : Nat)  (M1 : Nat → mRow) (H : Heap) (locs : List Loc) (ls : Array Slot), (i ≤ 3) → (lfill M_1 M1 11 (4 * i) (jlc (jturn (rU M d 3) (rU M d 4) (rU M d 5)) (rU M d))) → 6 * (3 - i) < kf → va_P D cls3 (bw ad 13 (fun j => mc_cell cs ad j (M1 j))) H → va_S (bw_A ad 13 s.heap.size) s.heap H locs → lv_has ls 4 [(2, .int (nI i)), (0, .ref (ad 0)), (1, .int (nI d))] → W p l e (headSpec (wc yM_makesLocal cM_makesLocal 4 none) ({ frames := 4, cells := 0, slots := 0, locals := 90 } : Room)).room s m ([.ref (ad 0), .int (nI d)] : List Value).toArray below meth c H locs 0 0 (MQ below (bQv D ad 13 (mc_cell cs ad) s.heap.size (fun M1 => (∀ q, (q < 7 ∨ 12 ≤ q) → M1 q = M q) ∧ lm (M1 11) (jlocal (rU M d)))) ([.ref (ad 0), .int (nI d)] : List Value).toArray s 0 0 (bw_A ad 13 s.heap.size)) (F0 m 12 ls [])) ∧ (∀ (i : Nat) (j : Nat)  (M1 : Nat → mRow) (H : Heap) (locs : List Loc) (ls : Array Slot), (i < 3) → (j ≤ 3) → (lfill M_1 M1 11 (4 * i + j) (jlc (jturn (rU M d 3) (rU M d 4) (rU M d 5)) (rU M d))) → 6 * (3 - i) - 1 - j < kf → va_P D cls3 (bw ad 13 (fun j => mc_cell cs ad j (M1 j))) H → va_S (bw_A ad 13 s.heap.size) s.heap H locs → lv_has ls 4 [(2, .int (nI i)), (3, .int (nI j)), (0, .ref (ad 0)), (1, .int (nI d))] → W p l e (headSpec (wc yM_makesLocal cM_makesLocal 4 none) ({ frames := 4, cells := 0, slots := 0, locals := 90 } : Room)).room s m ([.ref (ad 0), .int (nI d)] : List Value).toArray below meth c H locs 0 0 (MQ below (bQv D ad 13 (mc_cell cs ad) s.heap.size (fun M1 => (∀ q, (q < 7 ∨ 12 ≤ q) → M1 q = M q) ∧ lm (M1 11) (jlocal (rU M d)))) ([.ref (ad 0), .int (nI d)] : List Value).toArray s 0 0 (bw_A ad 13 s.heap.size)) (F0 m 19 ls [])) := by
    intro kf
    induction kf with
    | zero => exact ⟨by intros; omega, by intros; omega⟩
    | succ kf ih =>
      refine ⟨?_, ?_⟩
      · skip
        intro i  M1 H locs ls hi hinv hmu hP hS hl
        refine lv_iload_n hx hb dM_makesLocal_12 rfl (lv_at hl 0 rfl) ?_
        refine lv_iconst (v := nI 3) hx hb dM_makesLocal_13 (by decide) ?_
        refine ln_icmp_ge (tgt := 99) hx hb dM_makesLocal_14 (by decide) (by omega) (by omega) (fun c_14 => ?_) (fun c_14 => ?_)
        · skip
          exact W.vret hx hb hr (fun t ht hW => ⟨⟨M1, rfl, ⟨fun q hq => (hinv.1 q (by omega)).trans (hr_7.1 q (by omega)), lfill.done (hinv.le (by omega))⟩, by show va_P _ _ _ t.heap; rw [ht]; exact hP⟩, hS.F ht⟩) hS.2.2 dM_makesLocal_99
        · skip
          refine lv_iconst (v := nI 0) hx hb dM_makesLocal_17 (by decide) ?_
          refine lv_istore_n (lv' := [(3, .int (nI 0)), (2, .int (nI i)), (0, .ref (ad 0)), (1, .int (nI d))]) hx hb dM_makesLocal_18 rfl hl (by decide) rfl (fun ls hl => ?_)
          exact ih.2 i 0  M1 H locs ls (by omega) (by omega) (hinv) (by omega) hP hS (lv_sub hl [1, 0, 2, 3] rfl)
      · skip
        intro i j  M1 H locs ls hi hj0 hinv hmu hP hS hl
        refine lv_iload_n hx hb dM_makesLocal_19 rfl (lv_at hl 1 rfl) ?_
        refine lv_iconst (v := nI 3) hx hb dM_makesLocal_20 (by decide) ?_
        refine ln_icmp_ge (tgt := 71) hx hb dM_makesLocal_21 (by decide) (by omega) (by omega) (fun c_21 => ?_) (fun c_21 => ?_)
        · skip
          have hj3 : j = 3 := by omega
          rw [hj3] at hinv
          refine lv_aload_n hx hb dM_makesLocal_71 rfl (lv_at hl 2 rfl) ?_
          refine bw_get (own := RM) (ci := 2) (C := RM) (T := TM) (N := 14) (v := .ref (ad 11)) hx hb hts inM hown hE hP 0 (by decide) rfl rfl 12 (by decide) w_328 rfl rfl dM_makesLocal_72 ?_
          refine lv_iconst (v := nI 4) hx hb dM_makesLocal_75 (by decide) ?_
          refine lv_iload_n hx hb dM_makesLocal_76 rfl (lv_at hl 0 rfl) ?_
          refine ln_imul hx hb dM_makesLocal_77 ?_
          refine lv_iconst (v := nI 3) hx hb dM_makesLocal_78 (by decide) ?_
          refine ln_iadd hx hb dM_makesLocal_79 ?_
          refine lv_aload_n hx hb dM_makesLocal_80 rfl (lv_at hl 2 rfl) ?_
          refine bw_get (own := RM) (ci := 2) (C := RM) (T := TM) (N := 14) (v := .ref (ad 4)) hx hb hts inM hown hE hP 0 (by decide) rfl rfl 5 (by decide) w_321 rfl rfl dM_makesLocal_81 ?_
          refine lv_bipush (v := nI 9) hx hb dM_makesLocal_84 (by decide) ?_
          refine lv_iload_n hx hb dM_makesLocal_86 rfl (lv_at hl 3 rfl) ?_
          refine ln_imul hx hb dM_makesLocal_87 ?_
          refine lv_iload_n hx hb dM_makesLocal_88 rfl (lv_at hl 0 rfl) ?_
          refine ln_iadd hx hb dM_makesLocal_89 ?_
          refine ln_iald (L := 441) (g := (M1 4).1) hx hb hE hP 4 0 (by decide) (rfl) rfl (by omega) (by decide) dM_makesLocal_90 ?_
          refine lv_i2l (v := ((M1 4).1 ((9 * d) + i)).toInt64) hx hb dM_makesLocal_91 rfl ?_
          refine ln_last (L := 12) hx hb hE hI hP hS 11 3 (by decide) (rfl) rfl (by omega) (by decide) (((M1 11).1, vp_updL (M1 11).2 ((4 * i) + 3) (((M1 4).1 ((9 * d) + i)).toInt64))) (rfl) dM_makesLocal_92 (fun M_2 H locs eM_2 hP hS => ?_)
          refine lv_iinc (v := nI (i + 1)) (lv' := [(2, .int (nI (i + 1))), (3, .int (nI j)), (0, .ref (ad 0)), (1, .int (nI d))]) hx hb dM_makesLocal_93 hl (k := 0) rfl (nI_add i 1) (by decide) rfl (fun ls hl => ?_)
          refine lv_goto (tgt := 12) hx hb dM_makesLocal_96 (by decide) ?_
          exact ih.1 (i + 1)  M_2 H locs ls (by omega) (lfill.le (hinv.step eM_2 (by rw [hinv.1 4 (by decide), hr_7.1 4 (by decide)]; unfold jlc rU; rw [if_pos rfl, show 9 * d + (0 + i) = 9 * d + i by omega]) (by decide)) (by omega)) (by omega) hP hS (lv_sub hl [0, 2, 3] rfl)
        · skip
          refine lv_aload_n hx hb dM_makesLocal_24 rfl (lv_at hl 2 rfl) ?_
          refine bw_get (own := RM) (ci := 2) (C := RM) (T := TM) (N := 14) (v := .ref (ad 11)) hx hb hts inM hown hE hP 0 (by decide) rfl rfl 12 (by decide) w_328 rfl rfl dM_makesLocal_25 ?_
          refine lv_iconst (v := nI 4) hx hb dM_makesLocal_28 (by decide) ?_
          refine lv_iload_n hx hb dM_makesLocal_29 rfl (lv_at hl 0 rfl) ?_
          refine ln_imul hx hb dM_makesLocal_30 ?_
          refine lv_iload_n hx hb dM_makesLocal_31 rfl (lv_at hl 1 rfl) ?_
          refine ln_iadd hx hb dM_makesLocal_32 ?_
          refine lv_aload_n hx hb dM_makesLocal_33 rfl (lv_at hl 2 rfl) ?_
          refine bw_get (own := RM) (ci := 2) (C := RM) (T := TM) (N := 14) (v := .ref (ad 10)) hx hb hts inM hown hE hP 0 (by decide) rfl rfl 11 (by decide) w_327 rfl rfl dM_makesLocal_34 ?_
          refine lv_iconst (v := nI 4) hx hb dM_makesLocal_37 (by decide) ?_
          refine lv_iload_n hx hb dM_makesLocal_38 rfl (lv_at hl 0 rfl) ?_
          refine ln_imul hx hb dM_makesLocal_39 ?_
          refine lv_iload_n hx hb dM_makesLocal_40 rfl (lv_at hl 1 rfl) ?_
          refine ln_iadd hx hb dM_makesLocal_41 ?_
          refine ln_lald (L := 12) (g := (M1 10).2) hx hb hE hP 10 3 (by decide) (rfl) rfl (by omega) (by decide) dM_makesLocal_42 ?_
          refine lv_aload_n hx hb dM_makesLocal_43 rfl (lv_at hl 2 rfl) ?_
          refine bw_get (own := RM) (ci := 2) (C := RM) (T := TM) (N := 14) (v := .ref (ad 4)) hx hb hts inM hown hE hP 0 (by decide) rfl rfl 5 (by decide) w_321 rfl rfl dM_makesLocal_44 ?_
          refine lv_bipush (v := nI 9) hx hb dM_makesLocal_47 (by decide) ?_
          refine lv_iload_n hx hb dM_makesLocal_49 rfl (lv_at hl 3 rfl) ?_
          refine ln_imul hx hb dM_makesLocal_50 ?_
          refine lv_bipush (v := nI 6) hx hb dM_makesLocal_51 (by decide) ?_
          refine ln_iadd hx hb dM_makesLocal_53 ?_
          refine lv_iload_n hx hb dM_makesLocal_54 rfl (lv_at hl 1 rfl) ?_
          refine ln_iadd hx hb dM_makesLocal_55 ?_
          refine ln_iald (L := 441) (g := (M1 4).1) hx hb hE hP 4 0 (by decide) (rfl) rfl (by omega) (by decide) dM_makesLocal_56 ?_
          refine lv_i2l (v := ((M1 4).1 (((9 * d) + 6) + j)).toInt64) hx hb dM_makesLocal_57 rfl ?_
          refine vp_callSl (va_Run.run (bc_runS (own := RM) (As := [.long ((M1 10).2 ((4 * i) + j)), .long (((M1 4).1 (((9 * d) + 6) + j)).toInt64)]) (rest := [.int (nI ((4 * i) + j)), .ref (ad 11)]) hx hb (hml.trans hl.1.symm) hown hts (kM_mul l ((M1 10).2 ((4 * i) + j)) (((M1 4).1 (((9 * d) + 6) + j)).toInt64)) w_441 w_439 w_440 w_4 hd_M_mul rfl ⟨rfl, rfl⟩ ⟨Nat.le_of_ble_eq_true rfl, Nat.le_of_ble_eq_true rfl⟩ (fun _ _ _ _ _ => trivial) (fun _ _ _ => trivial) rfl (Nat.le_of_ble_eq_true rfl) dM_makesLocal_58 ⟨Nat.le_of_ble_eq_true rfl, Nat.le_of_ble_eq_true rfl⟩)) (fun r_58 hr_58 => ?_)
          refine ln_asl (jmul (jturn (rU M d 3) (rU M d 4) (rU M d 5) (4 * i + j)).toInt64 (rU M d (6 + j)).toInt64) (by rw [hr_58, hinv.1 10 (by decide), hr_7.2 (4 * i + j) (by omega), hinv.1 4 (by decide), hr_7.1 4 (by decide)]; unfold rU; rw [show 9 * d + 6 + j = 9 * d + (6 + j) by omega]) ?_
          refine vp_callSl (va_Run.run (bc_runS (own := RM) (As := [.long (jmul (jturn (rU M d 3) (rU M d 4) (rU M d 5) (4 * i + j)).toInt64 (rU M d (6 + j)).toInt64)]) (rest := [.int (nI ((4 * i) + j)), .ref (ad 11)]) hx hb (hml.trans hl.1.symm) hown hts (kM_bound l (jmul (jturn (rU M d 3) (rU M d 4) (rU M d 5) (4 * i + j)).toInt64 (rU M d (6 + j)).toInt64)) w_444 w_442 w_443 w_4 hd_M_bound rfl ⟨rfl, rfl⟩ ⟨Nat.le_of_ble_eq_true rfl, Nat.le_of_ble_eq_true rfl⟩ (fun _ _ _ _ _ => trivial) (fun _ _ _ => trivial) rfl (Nat.le_of_ble_eq_true rfl) dM_makesLocal_61 ⟨Nat.le_of_ble_eq_true rfl, Nat.le_of_ble_eq_true rfl⟩)) (fun r_61 hr_61 => ?_)
          refine ln_last (L := 12) hx hb hE hI hP hS 11 3 (by decide) (rfl) rfl (by omega) (by decide) (((M1 11).1, vp_updL (M1 11).2 ((4 * i) + j) r_61)) (rfl) dM_makesLocal_64 (fun M_3 H locs eM_3 hP hS => ?_)
          refine lv_iinc (v := nI (j + 1)) (lv' := [(3, .int (nI (j + 1))), (2, .int (nI i)), (0, .ref (ad 0)), (1, .int (nI d))]) hx hb dM_makesLocal_65 hl (k := 1) rfl (nI_add j 1) (by decide) rfl (fun ls hl => ?_)
          refine lv_goto (tgt := 19) hx hb dM_makesLocal_68 (by decide) ?_
          exact ih.2 i (j + 1)  M_3 H locs ls (by omega) (by omega) (hinv.step eM_3 (by rw [hr_61]; exact (jlc_l (by omega)).symm) (by omega)) (by omega) hP hS (lv_sub hl [1, 0, 2, 3] rfl)
  exact (loop 100000).1 0  M_1 H locs ls (by omega) (lfill.zero) (by omega) hP hS (lv_sub hl [0, 1, 2] rfl)

theorem jpt_lt {par : Nat → Int32} {N d : Nat} (hp : pOk par N) (hN : N < 2147483648) (hd : d < N) {n : Nat} (h : ∀ i, i < n → 0 ≤ par (jpt par d i)) : ∀ i, i ≤ n → jpt par d i + i ≤ d := by
  intro i
  induction i with
  | zero => intro _; exact Nat.le_refl _
  | succ i ih =>
    intro hi
    have h1 := ih (by omega)
    rcases hp (jpt par d i) (by omega) with q | ⟨q, hq, e⟩
    · have := h i (by omega)
      simp only [Int32.lt_iff_toInt_lt, Int32.le_iff_toInt_le] at q this
      omega
    · rw [jpt_next e (by omega)]; omega

theorem jpt_le {par : Nat → Int32} {d n : Nat} (h : ∀ i, i < n → jpt par d (i + 1) < jpt par d i ∧ par (jpt par d i) = nI (jpt par d (i + 1))) : ∀ i, i ≤ n → jpt par d i ≤ d := by
  intro i
  induction i with
  | zero => intro _; exact Nat.le_refl _
  | succ i ih => intro hi; have := ih (by omega); have := (h i (by omega)).1; omega

set_option maxHeartbeats 4000000 in
set_option maxRecDepth 100000 in
theorem kM_makesWorld (l : Launch) (D : va_G) (cs : Nat → ClassId) (ad : Nat → Nat) (hI : bw_I ad 13) (M : Nat → mRow) (sz : Nat) (N d : Nat) (hN : N ≤ 48) (hd : d < N) (hp : pOk (M 1).1 N)  : Met l yM_makesWorld (wc yM_makesWorld cM_makesWorld 4 none) ({ frames := 5, cells := 0, slots := 0, locals := 113 } : Room) (va_Pc [.ref (ad 0), .int (nI d)] (mP D cs ad M sz)) (bQv D ad 13 (mc_cell cs ad) sz (fun M1 => (∀ q, (q < 5 ∨ q = 6) → M1 q = M q) ∧ lm (M1 7) (jworld (M 1).1 (fun n => jlocal (rU M n)) d))) 0 0 (bw_A ad 13 sz) := by
  refine Met.ofW (cc := cM_makesWorld) (maxL := 4) (ret := none) (by decide +kernel) rfl ?_
  intro p e s m args below meth c s₁ B hml hv
  obtain ⟨rfl, hsz, hP, hE⟩ := hv
  subst hsz
  have hx := B.exec
  have hb := B.bytes
  have hr := B.returns
  have hts : ∀ w9 ∈ ws_all, w9.before ([.ref (ad 0), .int (nI d)] : List Value).toArray s = true := fun w9 h => atoms_spec (ws := (wc yM_makesWorld cM_makesWorld 4 none)) B.pre w9 (List.mem_cons_of_mem _ h)
  have hown : s.vm.findClass RM = some m.cls := findClass_of_methodNamed B.named
  have hlocks := B.notSynchronized
  have hS : va_S (bw_A ad 13 s.heap.size) s.heap s.heap [] := va_S.rf
  have hl := lv_entry ([.ref (ad 0), .int (nI d)]) (n := 4) (Nat.le_of_ble_eq_true rfl)
  rw [lg_entry_eq]
  generalize (lg_sl ([.ref (ad 0), .int (nI d)]) ++ List.replicate (4 - (lg_sl ([.ref (ad 0), .int (nI d)])).length) Slot.unset).toArray = ls at hl ⊢
  have hl : lv_has ls 4 [(0, .ref (ad 0)), (1, .int (nI d))] := hl
  refine lv_iconst (v := nI 0) hx hb dM_makesWorld_0 (by decide) ?_
  refine lv_istore_n (lv' := [(2, .int (nI 0)), (0, .ref (ad 0)), (1, .int (nI d))]) hx hb dM_makesWorld_1 rfl hl (by decide) rfl (fun ls hl => ?_)
  refine lv_iload_n hx hb dM_makesWorld_2 rfl (lv_at hl 2 rfl) ?_
  refine lv_istore_n (lv' := [(3, .int (nI d)), (2, .int (nI 0)), (0, .ref (ad 0)), (1, .int (nI d))]) hx hb dM_makesWorld_3 rfl hl (by decide) rfl (fun ls hl => ?_)
  have loop : ∀ kf : Nat, (∀ (n : Nat)  (M1 : Nat → mRow) (H : Heap) (locs : List Loc) (ls : Array Slot), (jpt (M 1).1 d n + n ≤ d) → (∀ i, i < n → jpt (M 1).1 d (i + 1) < jpt (M 1).1 d i ∧ (M 1).1 (jpt (M 1).1 d i) = nI (jpt (M 1).1 d (i + 1))) → (wInv M M1 d n) → d + 1 - n < kf → va_P D cls3 (bw ad 13 (fun j => mc_cell cs ad j (M1 j))) H → va_S (bw_A ad 13 s.heap.size) s.heap H locs → lv_has ls 4 [(2, .int (nI n)), (0, .ref (ad 0)), (1, .int (nI d)), (3, .int (nI (jpt (M 1).1 d n)))] → W p l e (headSpec (wc yM_makesWorld cM_makesWorld 4 none) ({ frames := 5, cells := 0, slots := 0, locals := 113 } : Room)).room s m ([.ref (ad 0), .int (nI d)] : List Value).toArray below meth c H locs 0 0 (MQ below (bQv D ad 13 (mc_cell cs ad) s.heap.size (fun M1 => (∀ q, (q < 5 ∨ q = 6) → M1 q = M q) ∧ lm (M1 7) (jworld (M 1).1 (fun n => jlocal (rU M n)) d))) ([.ref (ad 0), .int (nI d)] : List Value).toArray s 0 0 (bw_A ad 13 s.heap.size)) (F0 m 4 ls [])) := by
    intro kf
    induction kf with
    | zero => exact by intros; omega
    | succ kf ih =>
      intro n  M1 H locs ls hn0 hway hinv hmu hP hS hl
      refine lv_iload_n hx hb dM_makesWorld_4 rfl (lv_at hl 3 rfl) ?_
      refine ln_if_lt (tgt := 28) hx hb dM_makesWorld_5 (by decide) (by omega) ?_
      have hk9 : jpt (M 1).1 d n < N := by omega
      refine lv_aload_n hx hb dM_makesWorld_8 rfl (lv_at hl 1 rfl) ?_
      refine bw_get (own := RM) (ci := 2) (C := RM) (T := TM) (N := 14) (v := .ref (ad 5)) hx hb hts inM hown hE hP 0 (by decide) rfl rfl 6 (by decide) w_322 rfl rfl dM_makesWorld_9 ?_
      refine lv_iload_n hx hb dM_makesWorld_12 rfl (lv_at hl 0 rfl) ?_
      refine lv_iload_n hx hb dM_makesWorld_13 rfl (lv_at hl 3 rfl) ?_
      refine ln_iast (L := 48) hx hb hE hI hP hS 5 0 (by decide) (rfl) rfl (by omega) (by decide) ((upd (M1 5).1 n (nI (jpt (M 1).1 d n)), (M1 5).2)) (rfl) dM_makesWorld_14 (fun M_1 H locs eM_1 hP hS => ?_)
      refine lv_iinc (v := nI (n + 1)) (lv' := [(2, .int (nI (n + 1))), (0, .ref (ad 0)), (1, .int (nI d)), (3, .int (nI (jpt (M 1).1 d n)))]) hx hb dM_makesWorld_15 hl (k := 0) rfl (nI_add n 1) (by decide) rfl (fun ls hl => ?_)
      refine lv_aload_n hx hb dM_makesWorld_18 rfl (lv_at hl 1 rfl) ?_
      refine bw_get (own := RM) (ci := 2) (C := RM) (T := TM) (N := 14) (v := .ref (ad 1)) hx hb hts inM hown hE hP 0 (by decide) rfl rfl 2 (by decide) w_318 rfl rfl dM_makesWorld_19 ?_
      refine lv_iload_n hx hb dM_makesWorld_22 rfl (lv_at hl 3 rfl) ?_
      refine ln_iald (L := 48) (g := (M_1 1).1) hx hb hE hP 1 0 (by decide) (rfl) rfl (by omega) (by decide) dM_makesWorld_23 ?_
      have h1r : (M_1 1).1 = (M 1).1 := by rw [eM_1, va_up_ne _ _ (by decide), hinv.1 1 (by decide)]
      have hw1 := hinv.step eM_1
      rcases hp (jpt (M 1).1 d n) hk9 with hneg | ⟨q, hq, hpq⟩
      · skip
        refine lv_istore_n (lv' := [(3, .int ((M_1 1).1 (jpt (M 1).1 d n))), (2, .int (nI (n + 1))), (0, .ref (ad 0)), (1, .int (nI d))]) hx hb dM_makesWorld_24 rfl hl (by decide) rfl (fun ls hl => ?_)
        refine lv_goto (tgt := 4) hx hb dM_makesWorld_25 (by decide) ?_
        refine lv_iload_n hx hb dM_makesWorld_4 rfl (lv_at hl 0 rfl) ?_
        refine lv_if_lt (tgt := 28) hx hb dM_makesWorld_5 (by decide) (fun c_5 => ?_) (fun c_5 => ?_)
        · skip
          refine lv_aload_n hx hb dM_makesWorld_28 rfl (lv_at hl 2 rfl) ?_
          refine lv_aload_n hx hb dM_makesWorld_29 rfl (lv_at hl 2 rfl) ?_
          refine bw_get (own := RM) (ci := 2) (C := RM) (T := TM) (N := 14) (v := .ref (ad 5)) hx hb hts inM hown hE hP 0 (by decide) rfl rfl 6 (by decide) w_322 rfl rfl dM_makesWorld_30 ?_
          refine lv_iload_n hx hb dM_makesWorld_33 rfl (lv_at hl 1 rfl) ?_
          refine lv_iconst (v := nI 1) hx hb dM_makesWorld_34 (by decide) ?_
          refine ln_isub hx hb dM_makesWorld_35 (by omega) ?_
          refine ln_iald (L := 48) (g := (M_1 5).1) hx hb hE hP 5 0 (by decide) (rfl) rfl (by omega) (by decide) dM_makesWorld_36 ?_
          refine ln_asi (nI (jpt (M 1).1 d n)) (by rw [show n + 1 - 1 = n by omega, hw1.2 n (by omega)]) ?_
          refine bc_callv (bc_runV (own := RM) (C := RM) (As := [.int (nI (jpt (M 1).1 d n))]) (rest := []) hx hb (hml.trans hl.1.symm) hown hts (kM_makesLocal l D cs ad hI M_1 H.size (jpt (M 1).1 d n) (by omega)) w_417 w_414 w_416 ws_sel_M_makesLocal w_4 ⟨rfl, hd_M_makesLocal⟩ rfl ⟨rfl, rfl⟩ ⟨Nat.le_of_ble_eq_true rfl, Nat.le_of_ble_eq_true rfl⟩ (fun _ _ _ _ h => h.calling) (bc_recv (r := (RM, TM, 14)) hE hP 0 (by decide) rfl rfl) (fun U hU hW => ⟨by rw [hU], by rw [hU]; exact hP, hE.warm hW⟩) rfl (Nat.le_of_ble_eq_true rfl) dM_makesWorld_37 ⟨Nat.le_of_ble_eq_true rfl, Nat.le_of_ble_eq_true rfl⟩) hS (fun M_2 H locs hr_37 hP hS => ?_)
          have hA9 : ∀ q, (q < 5 ∨ q = 6 ∨ 12 ≤ q) → M_2 q = M q := fun q hq => by rw [hr_37.1 q (by omega), hw1.1 q (by omega)]
          refine lv_aload_n hx hb dM_makesWorld_40 rfl (lv_at hl 2 rfl) ?_
          refine bw_get (own := RM) (ci := 2) (C := RM) (T := TM) (N := 14) (v := .ref (ad 11)) hx hb hts inM hown hE hP 0 (by decide) rfl rfl 12 (by decide) w_328 rfl rfl dM_makesWorld_41 ?_
          refine lv_aload_n hx hb dM_makesWorld_44 rfl (lv_at hl 2 rfl) ?_
          refine bw_get (own := RM) (ci := 2) (C := RM) (T := TM) (N := 14) (v := .ref (ad 7)) hx hb hts inM hown hE hP 0 (by decide) rfl rfl 8 (by decide) w_324 rfl rfl dM_makesWorld_45 ?_
          refine bc_callv (bc_runS (own := RM) (As := [.ref (ad 11), .ref (ad 7)]) (rest := []) hx hb (hml.trans hl.1.symm) hown hts (kM_copy l D cs ad hI M_2 H.size 11 7 (by decide) (by decide) (fun _ => rfl) (fun _ => rfl) (by decide)) w_449 w_447 w_448 w_4 hd_M_copy rfl ⟨rfl, rfl⟩ ⟨Nat.le_of_ble_eq_true rfl, Nat.le_of_ble_eq_true rfl⟩ (fun _ _ _ _ h => h.calling) (fun U hU hW => ⟨by rw [hU], by rw [hU]; exact hP, hE.warm hW⟩) rfl (Nat.le_of_ble_eq_true rfl) dM_makesWorld_48 ⟨Nat.le_of_ble_eq_true rfl, Nat.le_of_ble_eq_true rfl⟩) hS (fun M_3 H locs hr_48 hP hS => ?_)
          have hrU : ∀ n, rU M_1 n = rU M n := fun n => by unfold rU; rw [hw1.1 4 (by decide)]
          have hg0 : gInv M M_3 d n n := ⟨fun q hq => by rw [hr_48.1 q (by omega)]; exact hA9 q (by omega), fun i hi => by rw [hr_48.1 5 (by decide), hr_37.1 5 (by decide)]; exact hw1.2 i hi, by rw [jworld_root hneg, ← hrU]; exact hr_48.lm hr_37.2⟩
          refine lv_iload_n hx hb dM_makesWorld_51 rfl (lv_at hl 1 rfl) ?_
          refine lv_iconst (v := nI 2) hx hb dM_makesWorld_52 (by decide) ?_
          refine lv_isub hx hb dM_makesWorld_53 ?_
          rcases Nat.eq_zero_or_pos n with hz0 | hz0
          · skip
            refine ln_asi (-1) (by rw [hz0]; decide) ?_
            refine lv_istore_n (lv' := [(3, .int (-1)), (2, .int (nI (n + 1))), (0, .ref (ad 0)), (1, .int (nI d))]) hx hb dM_makesWorld_54 rfl hl (by decide) rfl (fun ls hl => ?_)
            refine lv_iload_n hx hb dM_makesWorld_55 rfl (lv_at hl 0 rfl) ?_
            refine lv_if_lt (tgt := 112) hx hb dM_makesWorld_56 (by decide) (fun c_56 => ?_) (fun c_56 => ?_)
            · skip
              exact W.vret hx hb hr (fun t ht hW => ⟨⟨M_3, rfl, ⟨hg0.1, by rw [hz0] at hg0; exact hg0.2.2⟩, by show va_P _ _ _ t.heap; rw [ht]; exact hP⟩, hS.F ht⟩) hS.2.2 dM_makesWorld_112
            · skip
              exact absurd (by decide) c_56
          · skip
            refine ln_asi (nI (n - 1)) (by rw [pk_sub (by omega)]; exact congrArg nI (by omega)) ?_
            refine lv_istore_n (lv' := [(3, .int (nI (n - 1))), (2, .int (nI (n + 1))), (0, .ref (ad 0)), (1, .int (nI d))]) hx hb dM_makesWorld_54 rfl hl (by decide) rfl (fun ls hl => ?_)
            have hdec : ∀ i, i < n → jpt (M 1).1 d (i + 1) < jpt (M 1).1 d i ∧ (M 1).1 (jpt (M 1).1 d i) = nI (jpt (M 1).1 d (i + 1)) := hway
            have hle : ∀ i, i ≤ n → jpt (M 1).1 d i ≤ d := fun i hi => by have := jpt_le hway i hi; omega
            have loop2 : ∀ kf : Nat, (∀ (k : Nat)  (M1 : Nat → mRow) (H : Heap) (locs : List Loc) (ls : Array Slot), (k < n) → (gInv M M1 d n (k + 1)) → k < kf → va_P D cls3 (bw ad 13 (fun j => mc_cell cs ad j (M1 j))) H → va_S (bw_A ad 13 s.heap.size) s.heap H locs → lv_has ls 4 [(3, .int (nI k)), (0, .ref (ad 0)), (1, .int (nI d)), (2, .int (nI (n + 1)))] → W p l e (headSpec (wc yM_makesWorld cM_makesWorld 4 none) ({ frames := 5, cells := 0, slots := 0, locals := 113 } : Room)).room s m ([.ref (ad 0), .int (nI d)] : List Value).toArray below meth c H locs 0 0 (MQ below (bQv D ad 13 (mc_cell cs ad) s.heap.size (fun M1 => (∀ q, (q < 5 ∨ q = 6) → M1 q = M q) ∧ lm (M1 7) (jworld (M 1).1 (fun n => jlocal (rU M n)) d))) ([.ref (ad 0), .int (nI d)] : List Value).toArray s 0 0 (bw_A ad 13 s.heap.size)) (F0 m 55 ls [])) := by
              intro kf
              induction kf with
              | zero => exact by intros; omega
              | succ kf ih =>
                intro k  M1 H locs ls hk hinv2 hmu hP hS hl
                refine lv_iload_n hx hb dM_makesWorld_55 rfl (lv_at hl 0 rfl) ?_
                refine ln_if_lt (tgt := 112) hx hb dM_makesWorld_56 (by decide) (by omega) ?_
                have hkd := hle k (by omega)
                refine lv_aload_n hx hb dM_makesWorld_59 rfl (lv_at hl 1 rfl) ?_
                refine bw_get (own := RM) (ci := 2) (C := RM) (T := TM) (N := 14) (v := .ref (ad 7)) hx hb hts inM hown hE hP 0 (by decide) rfl rfl 8 (by decide) w_324 rfl rfl dM_makesWorld_60 ?_
                refine lv_aload_n hx hb dM_makesWorld_63 rfl (lv_at hl 1 rfl) ?_
                refine bw_get (own := RM) (ci := 2) (C := RM) (T := TM) (N := 14) (v := .ref (ad 12)) hx hb hts inM hown hE hP 0 (by decide) rfl rfl 13 (by decide) w_329 rfl rfl dM_makesWorld_64 ?_
                refine bc_callv (bc_runS (own := RM) (As := [.ref (ad 7), .ref (ad 12)]) (rest := []) hx hb (hml.trans hl.1.symm) hown hts (kM_copy l D cs ad hI M1 H.size 7 12 (by decide) (by decide) (fun _ => rfl) (fun _ => rfl) (by decide)) w_449 w_447 w_448 w_4 hd_M_copy rfl ⟨rfl, rfl⟩ ⟨Nat.le_of_ble_eq_true rfl, Nat.le_of_ble_eq_true rfl⟩ (fun _ _ _ _ h => h.calling) (fun U hU hW => ⟨by rw [hU], by rw [hU]; exact hP, hE.warm hW⟩) rfl (Nat.le_of_ble_eq_true rfl) dM_makesWorld_67 ⟨Nat.le_of_ble_eq_true rfl, Nat.le_of_ble_eq_true rfl⟩) hS (fun M_4 H locs hr_67 hP hS => ?_)
                refine lv_aload_n hx hb dM_makesWorld_70 rfl (lv_at hl 1 rfl) ?_
                refine lv_aload_n hx hb dM_makesWorld_71 rfl (lv_at hl 1 rfl) ?_
                refine bw_get (own := RM) (ci := 2) (C := RM) (T := TM) (N := 14) (v := .ref (ad 5)) hx hb hts inM hown hE hP 0 (by decide) rfl rfl 6 (by decide) w_322 rfl rfl dM_makesWorld_72 ?_
                refine lv_iload_n hx hb dM_makesWorld_75 rfl (lv_at hl 0 rfl) ?_
                refine ln_iald (L := 48) (g := (M_4 5).1) hx hb hE hP 5 0 (by decide) (rfl) rfl (by omega) (by decide) dM_makesWorld_76 ?_
                refine ln_asi (nI (jpt (M 1).1 d k)) (by rw [hr_67.1 5 (by decide)]; exact hinv2.2.1 k (by omega)) ?_
                refine bc_callv (bc_runV (own := RM) (C := RM) (As := [.int (nI (jpt (M 1).1 d k))]) (rest := []) hx hb (hml.trans hl.1.symm) hown hts (kM_makesLocal l D cs ad hI M_4 H.size (jpt (M 1).1 d k) (by omega)) w_417 w_414 w_416 ws_sel_M_makesLocal w_4 ⟨rfl, hd_M_makesLocal⟩ rfl ⟨rfl, rfl⟩ ⟨Nat.le_of_ble_eq_true rfl, Nat.le_of_ble_eq_true rfl⟩ (fun _ _ _ _ h => h.calling) (bc_recv (r := (RM, TM, 14)) hE hP 0 (by decide) rfl rfl) (fun U hU hW => ⟨by rw [hU], by rw [hU]; exact hP, hE.warm hW⟩) rfl (Nat.le_of_ble_eq_true rfl) dM_makesWorld_77 ⟨Nat.le_of_ble_eq_true rfl, Nat.le_of_ble_eq_true rfl⟩) hS (fun M_5 H locs hr_77 hP hS => ?_)
                have h4k : M_4 4 = M 4 := by rw [hr_67.1 4 (by decide)]; exact hinv2.1 4 (by decide)
                have hrk : ∀ n, rU M_4 n = rU M n := fun n => by unfold rU; rw [h4k]
                refine lv_aload_n hx hb dM_makesWorld_80 rfl (lv_at hl 1 rfl) ?_
                refine bw_get (own := RM) (ci := 2) (C := RM) (T := TM) (N := 14) (v := .ref (ad 12)) hx hb hts inM hown hE hP 0 (by decide) rfl rfl 13 (by decide) w_329 rfl rfl dM_makesWorld_81 ?_
                refine lv_aload_n hx hb dM_makesWorld_84 rfl (lv_at hl 1 rfl) ?_
                refine bw_get (own := RM) (ci := 2) (C := RM) (T := TM) (N := 14) (v := .ref (ad 8)) hx hb hts inM hown hE hP 0 (by decide) rfl rfl 9 (by decide) w_325 rfl rfl dM_makesWorld_85 ?_
                refine bc_callv (bc_runS (own := RM) (As := [.ref (ad 12), .ref (ad 8)]) (rest := []) hx hb (hml.trans hl.1.symm) hown hts (kM_copy l D cs ad hI M_5 H.size 12 8 (by decide) (by decide) (fun _ => rfl) (fun _ => rfl) (by decide)) w_449 w_447 w_448 w_4 hd_M_copy rfl ⟨rfl, rfl⟩ ⟨Nat.le_of_ble_eq_true rfl, Nat.le_of_ble_eq_true rfl⟩ (fun _ _ _ _ h => h.calling) (fun U hU hW => ⟨by rw [hU], by rw [hU]; exact hP, hE.warm hW⟩) rfl (Nat.le_of_ble_eq_true rfl) dM_makesWorld_88 ⟨Nat.le_of_ble_eq_true rfl, Nat.le_of_ble_eq_true rfl⟩) hS (fun M_6 H locs hr_88 hP hS => ?_)
                refine lv_aload_n hx hb dM_makesWorld_91 rfl (lv_at hl 1 rfl) ?_
                refine bw_get (own := RM) (ci := 2) (C := RM) (T := TM) (N := 14) (v := .ref (ad 11)) hx hb hts inM hown hE hP 0 (by decide) rfl rfl 12 (by decide) w_328 rfl rfl dM_makesWorld_92 ?_
                refine lv_aload_n hx hb dM_makesWorld_95 rfl (lv_at hl 1 rfl) ?_
                refine bw_get (own := RM) (ci := 2) (C := RM) (T := TM) (N := 14) (v := .ref (ad 9)) hx hb hts inM hown hE hP 0 (by decide) rfl rfl 10 (by decide) w_326 rfl rfl dM_makesWorld_96 ?_
                refine bc_callv (bc_runS (own := RM) (As := [.ref (ad 11), .ref (ad 9)]) (rest := []) hx hb (hml.trans hl.1.symm) hown hts (kM_copy l D cs ad hI M_6 H.size 11 9 (by decide) (by decide) (fun _ => rfl) (fun _ => rfl) (by decide)) w_449 w_447 w_448 w_4 hd_M_copy rfl ⟨rfl, rfl⟩ ⟨Nat.le_of_ble_eq_true rfl, Nat.le_of_ble_eq_true rfl⟩ (fun _ _ _ _ h => h.calling) (fun U hU hW => ⟨by rw [hU], by rw [hU]; exact hP, hE.warm hW⟩) rfl (Nat.le_of_ble_eq_true rfl) dM_makesWorld_99 ⟨Nat.le_of_ble_eq_true rfl, Nat.le_of_ble_eq_true rfl⟩) hS (fun M_7 H locs hr_99 hP hS => ?_)
                refine lv_aload_n hx hb dM_makesWorld_102 rfl (lv_at hl 1 rfl) ?_
                refine bc_callv (bc_runV (own := RM) (C := RM) (As := []) (rest := []) hx hb (hml.trans hl.1.symm) hown hts (kM_times l D cs ad hI M_7 H.size (jworld (M 1).1 (fun n => jlocal (rU M n)) (jpt (M 1).1 d (k + 1))) (jlocal (rU M (jpt (M 1).1 d k))) (by rw [hr_99.1 8 (by decide)]; exact hr_88.lm (by rw [hr_77.1 12 (by decide)]; exact hr_67.lm hinv2.2.2)) (by rw [← hrk]; exact hr_99.lm (by rw [hr_88.1 11 (by decide)]; exact hr_77.2))) w_438 w_435 w_437 ws_sel_M_times w_4 ⟨rfl, hd_M_times⟩ rfl ⟨rfl, rfl⟩ ⟨Nat.le_of_ble_eq_true rfl, Nat.le_of_ble_eq_true rfl⟩ (fun _ _ _ _ h => h.calling) (bc_recv (r := (RM, TM, 14)) hE hP 0 (by decide) rfl rfl) (fun U hU hW => ⟨by rw [hU], by rw [hU]; exact hP, hE.warm hW⟩) rfl (Nat.le_of_ble_eq_true rfl) dM_makesWorld_103 ⟨Nat.le_of_ble_eq_true rfl, Nat.le_of_ble_eq_true rfl⟩) hS (fun M_8 H locs hr_103 hP hS => ?_)
                have hF : ∀ q, (q < 7 ∧ (q < 5 ∨ q = 6 ∨ q = 5)) → M_8 q = M1 q := fun q hq => by rw [hr_103.1 q (by omega), hr_99.1 q (by omega), hr_88.1 q (by omega), hr_77.1 q (by omega), hr_67.1 q (by omega)]
                have hg1 : gInv M M_8 d n k := ⟨fun q hq => by rw [hF q (by omega)]; exact hinv2.1 q hq, fun i hi => by rw [hF 5 (by omega)]; exact hinv2.2.1 i hi, by rw [jworld_at hp (by omega) (show jpt (M 1).1 d k < N by omega) (hdec k hk).1 (hdec k hk).2]; exact hr_103.2⟩
                rcases Nat.eq_zero_or_pos k with hz1 | hz1
                · skip
                  refine lv_iinc (v := (nI k) + (-1)) (lv' := [(3, .int ((nI k) + (-1))), (0, .ref (ad 0)), (1, .int (nI d)), (2, .int (nI (n + 1)))]) hx hb dM_makesWorld_106 hl (k := 0) rfl (rfl) (by decide) rfl (fun ls hl => ?_)
                  refine lv_goto (tgt := 55) hx hb dM_makesWorld_109 (by decide) ?_
                  refine lv_iload_n hx hb dM_makesWorld_55 rfl (lv_at hl 0 rfl) ?_
                  refine lv_if_lt (tgt := 112) hx hb dM_makesWorld_56 (by decide) (fun c_56 => ?_) (fun c_56 => ?_)
                  · skip
                    exact W.vret hx hb hr (fun t ht hW => ⟨⟨M_8, rfl, ⟨hg1.1, by rw [hz1] at hg1; exact hg1.2.2⟩, by show va_P _ _ _ t.heap; rw [ht]; exact hP⟩, hS.F ht⟩) hS.2.2 dM_makesWorld_112
                  · skip
                    exact absurd (by rw [hz1]; decide) c_56
                · skip
                  refine lv_iinc (v := nI (k - 1)) (lv' := [(3, .int (nI (k - 1))), (0, .ref (ad 0)), (1, .int (nI d)), (2, .int (nI (n + 1)))]) hx hb dM_makesWorld_106 hl (k := 0) rfl (sb_m1 hz1) (by decide) rfl (fun ls hl => ?_)
                  refine lv_goto (tgt := 55) hx hb dM_makesWorld_109 (by decide) ?_
                  exact ih (k - 1)  M_8 H locs ls (by omega) (by rw [show k - 1 + 1 = k by omega]; exact hg1) (by omega) hP hS (lv_sub hl [0, 1, 2, 3] rfl)
            exact (loop2 100000) (n - 1)  M_3 H locs ls (by omega) (by rw [show n - 1 + 1 = n by omega]; exact hg0) (by omega) hP hS (lv_sub hl [0, 2, 3, 1] rfl)
        · skip
          exact absurd (by rw [h1r]; exact hneg) c_5
      · skip
        have hq9 : jpt (M 1).1 d (n + 1) = q := jpt_next hpq (by omega)
        refine ln_asi (nI (jpt (M 1).1 d (n + 1))) (by rw [h1r, hpq, hq9]) ?_
        refine lv_istore_n (lv' := [(3, .int (nI (jpt (M 1).1 d (n + 1)))), (2, .int (nI (n + 1))), (0, .ref (ad 0)), (1, .int (nI d))]) hx hb dM_makesWorld_24 rfl hl (by decide) rfl (fun ls hl => ?_)
        refine lv_goto (tgt := 4) hx hb dM_makesWorld_25 (by decide) ?_
        exact ih (n + 1)  M_1 H locs ls (by omega) (fun i hi => by rcases (show i < n ∨ i = n by omega) with z | z; exact hway i z; rw [z, hq9]; exact ⟨hq, hpq⟩) (hw1) (by omega) hP hS (lv_sub hl [1, 2, 3, 0] rfl)
  exact (loop 100000) 0  M s.heap [] ls (Nat.le_refl _) (fun i hi => absurd hi (Nat.not_lt_zero _)) (⟨fun _ _ => rfl, fun i hi => by omega⟩) (by omega) hP hS (lv_sub hl [1, 2, 3, 0] rfl)
end
