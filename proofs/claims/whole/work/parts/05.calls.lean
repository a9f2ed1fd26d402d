/-! CALLS: a method whose words are ws_all, over a block -/
abbrev wc (y : MethodName) (bytes : ByteArray) (maxL : Nat) (ret : Option FieldType) : List Cond := Cond.code y bytes maxL ret :: ws_all
theorem goodV {own C : String} {idx : Nat} {y : MethodName} {w : Cond} (h1 : Cond.methodLink own idx y ∈ ws_all) (h2 : Cond.instanceMethod y ∈ ws_all) (h3 : Cond.selects C y y ∈ ws_all) (h4 : Cond.initialized C ∈ ws_all) (h : w ∈ ws_all) : GoodIn ws_all (wsV own idx C y (w :: ws_all)) := by
  intro x hx
  have hm : x ∈ ws_all := by
    unfold wsV at hx
    simp only [List.cons_append, List.nil_append, List.mem_cons] at hx
    rcases hx with rfl | rfl | rfl | rfl | rfl | hx
    · exact h1
    · exact h2
    · exact h3
    · exact h4
    · exact h
    · exact hx
  exact ⟨hm, good_of_word (ws_good hm)⟩
theorem goodS {own : String} {idx : Nat} {y : MethodName} {w : Cond} (h1 : Cond.methodLink own idx y ∈ ws_all) (h2 : Cond.static y ∈ ws_all) (h4 : Cond.initialized y.cls ∈ ws_all) (h : w ∈ ws_all) : GoodIn ws_all (va_wsS own idx y (w :: ws_all)) := by
  intro x hx
  have hm : x ∈ ws_all := by
    unfold va_wsS at hx
    simp only [List.cons_append, List.nil_append, List.mem_cons] at hx
    rcases hx with rfl | rfl | rfl | rfl | hx
    · exact h1
    · exact h2
    · exact h4
    · exact h
    · exact hx
  exact ⟨hm, good_of_word (ws_good hm)⟩
theorem bw_A_mono {ad : Nat → Nat} {n a b : Nat} (h : a ≤ b) {q : Nat} (hq : bw_A ad n b q) : bw_A ad n a q := by
  rcases hq with h1 | h1
  · exact Or.inl h1
  · exact Or.inr (Nat.le_trans h h1)
section BC
variable {p : Program} {l : Launch} {e : Env} {R : Room} {s : State} {m : MethodId} {args : Array Value} {below : List Frame} {meth : Method} {c : Code} {H : Heap} {locs : List Loc} {cells slots : Nat} {Q : State → Prop}
variable {cc : ByteArray} {pc : Nat} {ls : Array Slot} {rest st0 : List Value} {D : va_G} {tys : List (ClassId × FieldType)} {ad : Nat → Nat} {n : Nat}
variable {y : MethodName} {bytes : ByteArray} {maxL index mc ms b nA : Nat} {ret : Option FieldType} {rm : Room} {Pw : State → Prop} {Qc : Array Value → State → Outcome → State → Prop} {free : Addr → Prop} {As : List Value} {own C : String}
theorem bc_runV (hx : p.tables.exec = Jvm.exec) (hb : c.code = cc) (hml : c.maxLocals = ls.size) (hown : s.vm.findClass own = some m.cls) (hts : ∀ w ∈ ws_all, w.before args s = true) (hM : Met l y (wc y bytes maxL ret) rm (va_Pc (.ref b :: As) Pw) Qc mc ms free)
    (hcd : Cond.code y bytes maxL ret ∈ ws_all) (hlk : Cond.methodLink own index y ∈ ws_all) (hin : Cond.instanceMethod y ∈ ws_all) (hse : Cond.selects C y y ∈ ws_all) (hini : Cond.initialized C ∈ ws_all)
    (hd : y.cls = C ∧ y.cls ≠ "java/lang/invoke/MethodHandle" ∧ y.cls ≠ "java/lang/invoke/VarHandle" ∧ (parseMethodDescriptor y.desc).map (fun d => d.parameters.length) = some nA) (hn : As.length = nA) (hrm : rm.cells = mc ∧ rm.slots = ms) (hR : rm.frames + 1 ≤ R.frames ∧ 8 + (maxL + 11) + rm.locals ≤ R.locals)
    (hbl : ∀ (U : State) (g : JFrame) (mk : MethodId) (a : Array Value), Pw U → Pw (U.calling g mk a)) (hrv : ∃ cellB : Cell, H[b]? = some cellB ∧ cellB.vm.isStatics = false ∧ s.vm.findClass C = some cellB.cls) (hpre : ∀ U : State, U.heap = H → s.WarmedH U.vm → Pw U)
    (hst : st0 = As.reverse ++ .ref b :: rest) (hW : (rest.map fun v => v.category).sum ≤ 8) (hdg : decode cc pc = .ok (.invokevirtual index, 3)) (hf : cells + mc ≤ R.cells ∧ slots + ms ≤ R.slots) :
    va_Run p l e R s m args below meth c H locs cells slots mc ms (F0 m pc ls st0) rest (Qc (Value.ref b :: As).toArray) free :=
  va_runV (C := C) ⟨hx, hb, hml, hown, hts⟩ hM (cwV nA hts (goodV hlk hin hse hini hcd) rfl hrm.1 hrm.2 hd hR) ⟨bBlind hbl, hrv, fun U h1 h2 => ⟨rfl, hpre U h1 h2⟩⟩ rfl hn rfl hst (lv_room hW) hdg hf
theorem bc_runS (hx : p.tables.exec = Jvm.exec) (hb : c.code = cc) (hml : c.maxLocals = ls.size) (hown : s.vm.findClass own = some m.cls) (hts : ∀ w ∈ ws_all, w.before args s = true) (hM : Met l y (wc y bytes maxL ret) rm (va_Pc As Pw) Qc mc ms free)
    (hcd : Cond.code y bytes maxL ret ∈ ws_all) (hlk : Cond.methodLink own index y ∈ ws_all) (hst' : Cond.static y ∈ ws_all) (hini : Cond.initialized y.cls ∈ ws_all)
    (hd : y.cls ≠ "java/lang/invoke/MethodHandle" ∧ y.cls ≠ "java/lang/invoke/VarHandle" ∧ (parseMethodDescriptor y.desc).map (fun d => d.parameters.length) = some nA) (hn : As.length = nA) (hrm : rm.cells = mc ∧ rm.slots = ms) (hR : rm.frames + 1 ≤ R.frames ∧ 8 + (maxL + 11) + rm.locals ≤ R.locals)
    (hbl : ∀ (U : State) (g : JFrame) (mk : MethodId) (a : Array Value), Pw U → Pw (U.calling g mk a)) (hpre : ∀ U : State, U.heap = H → s.WarmedH U.vm → Pw U)
    (hst : st0 = As.reverse ++ rest) (hW : (rest.map fun v => v.category).sum ≤ 8) (hdg : decode cc pc = .ok (.invokestatic index, 3)) (hf : cells + mc ≤ R.cells ∧ slots + ms ≤ R.slots) :
    va_Run p l e R s m args below meth c H locs cells slots mc ms (F0 m pc ls st0) rest (Qc As.toArray) free :=
  va_runS ⟨hx, hb, hml, hown, hts⟩ hM (va_cwS nA hts (goodS hlk hst' hini hcd) rfl hrm.1 hrm.2 hd hR) ⟨bBlind hbl, fun U h1 h2 => ⟨rfl, hpre U h1 h2⟩⟩ rfl hn rfl hst (lv_room hW) hdg hf
theorem bc_runI (hx : p.tables.exec = Jvm.exec) (hb : c.code = cc) (hml : c.maxLocals = ls.size) (hown : s.vm.findClass own = some m.cls) (hts : ∀ w ∈ ws_all, w.before args s = true) (hM : Met l y (wc y bytes maxL none) rm (va_Pc (.ref b :: As) Pw) Qc mc ms free)
    (hcd : Cond.code y bytes maxL none ∈ ws_all) (hlk : Cond.methodLink own index y ∈ ws_all) (hin : Cond.instanceMethod y ∈ ws_all) (hini : Cond.initialized y.cls ∈ ws_all) (hy1 : y.name = "<init>")
    (hd : y.cls ≠ "java/lang/invoke/MethodHandle" ∧ y.cls ≠ "java/lang/invoke/VarHandle" ∧ (parseMethodDescriptor y.desc).map (fun d => d.parameters.length) = some nA) (hn : As.length = nA) (hrm : rm.cells = mc ∧ rm.slots = ms) (hR : rm.frames + 1 ≤ R.frames ∧ 8 + (maxL + 11) + rm.locals ≤ R.locals)
    (hbl : ∀ (U : State) (g : JFrame) (mk : MethodId) (a : Array Value), Pw U → Pw (U.calling g mk a)) (hpre : ∀ U : State, U.heap = H → s.WarmedH U.vm → Pw U)
    (hst : st0 = As.reverse ++ .ref b :: rest) (hW : (rest.map fun v => v.category).sum ≤ 8) (hdg : decode cc pc = .ok (.invokespecial index, 3)) (hf : cells + mc ≤ R.cells ∧ slots + ms ≤ R.slots) :
    va_Run p l e R s m args below meth c H locs cells slots mc ms (F0 m pc ls st0) rest (Qc (Value.ref b :: As).toArray) free :=
  va_runI ⟨hx, hb, hml, hown, hts⟩ hM (cwI nA hts (goodAll hcd) rfl hrm.1 hrm.2 (hts _ hini) (hts _ hlk) (hts _ hin) hy1 hd hR) ⟨bBlind hbl, fun U h1 h2 => ⟨rfl, hpre U h1 h2⟩⟩ rfl hn rfl hst (lv_room hW) hdg hf
theorem bc_runVN {host : String} (hx : p.tables.exec = Jvm.exec) (hb : c.code = cc) (hml : c.maxLocals = ls.size) (hown : s.vm.findClass own = some m.cls) (hts : ∀ w ∈ ws_all, w.before args s = true) (hM : Met l y (wc y bytes maxL ret) rm (va_Pc (.ref b :: As) Pw) Qc mc ms free)
    (hcd : Cond.code y bytes maxL ret ∈ ws_all) (hlk : va_Nw (.methodLinkNest own index y host) s) (hin : Cond.instanceMethod y ∈ ws_all) (hse : Cond.selects C y y ∈ ws_all) (hini : Cond.initialized y.cls ∈ ws_all)
    (hd : y.cls ≠ "java/lang/invoke/MethodHandle" ∧ y.cls ≠ "java/lang/invoke/VarHandle" ∧ (parseMethodDescriptor y.desc).map (fun d => d.parameters.length) = some nA) (hn : As.length = nA) (hrm : rm.cells = mc ∧ rm.slots = ms) (hR : rm.frames + 1 ≤ R.frames ∧ 8 + (maxL + 11) + rm.locals ≤ R.locals)
    (hbl : ∀ (U : State) (g : JFrame) (mk : MethodId) (a : Array Value), Pw U → Pw (U.calling g mk a)) (hrv : ∃ cellB : Cell, H[b]? = some cellB ∧ cellB.vm.isStatics = false ∧ s.vm.findClass C = some cellB.cls) (hpre : ∀ U : State, U.heap = H → s.WarmedH U.vm → Pw U)
    (hst : st0 = As.reverse ++ .ref b :: rest) (hW : (rest.map fun v => v.category).sum ≤ 8) (hdg : decode cc pc = .ok (.invokevirtual index, 3)) (hf : cells + mc ≤ R.cells ∧ slots + ms ≤ R.slots) :
    va_Run p l e R s m args below meth c H locs cells slots mc ms (F0 m pc ls st0) rest (Qc (Value.ref b :: As).toArray) free :=
  va_runVN (C := C) (host := host) ⟨hx, hb, hml, hown, hts⟩ hM ⟨va_cnB nA hts (goodAll hcd) rfl hrm.1 hrm.2 hlk (hts _ hini) hd hR, hts _ hin, hts _ hse⟩ ⟨bBlind hbl, hrv, fun U h1 h2 => ⟨rfl, hpre U h1 h2⟩⟩ rfl hn rfl hst (lv_room hW) hdg hf
theorem bc_runSN {host : String} (hx : p.tables.exec = Jvm.exec) (hb : c.code = cc) (hml : c.maxLocals = ls.size) (hown : s.vm.findClass own = some m.cls) (hts : ∀ w ∈ ws_all, w.before args s = true) (hM : Met l y (wc y bytes maxL ret) rm (va_Pc As Pw) Qc mc ms free)
    (hcd : Cond.code y bytes maxL ret ∈ ws_all) (hlk : va_Nw (.methodLinkNest own index y host) s) (hst' : Cond.static y ∈ ws_all) (hini : Cond.initialized y.cls ∈ ws_all)
    (hd : y.cls ≠ "java/lang/invoke/MethodHandle" ∧ y.cls ≠ "java/lang/invoke/VarHandle" ∧ (parseMethodDescriptor y.desc).map (fun d => d.parameters.length) = some nA) (hn : As.length = nA) (hrm : rm.cells = mc ∧ rm.slots = ms) (hR : rm.frames + 1 ≤ R.frames ∧ 8 + (maxL + 11) + rm.locals ≤ R.locals)
    (hbl : ∀ (U : State) (g : JFrame) (mk : MethodId) (a : Array Value), Pw U → Pw (U.calling g mk a)) (hpre : ∀ U : State, U.heap = H → s.WarmedH U.vm → Pw U)
    (hst : st0 = As.reverse ++ rest) (hW : (rest.map fun v => v.category).sum ≤ 8) (hdg : decode cc pc = .ok (.invokestatic index, 3)) (hf : cells + mc ≤ R.cells ∧ slots + ms ≤ R.slots) :
    va_Run p l e R s m args below meth c H locs cells slots mc ms (F0 m pc ls st0) rest (Qc As.toArray) free :=
  va_runSN (host := host) ⟨hx, hb, hml, hown, hts⟩ hM ⟨va_cnB nA hts (goodAll hcd) rfl hrm.1 hrm.2 hlk (hts _ hini) hd hR, hts _ hst', trivial⟩ ⟨bBlind hbl, fun U h1 h2 => ⟨rfl, hpre U h1 h2⟩⟩ rfl hn rfl hst (lv_room hW) hdg hf
theorem bc_runIN {host : String} (hx : p.tables.exec = Jvm.exec) (hb : c.code = cc) (hml : c.maxLocals = ls.size) (hown : s.vm.findClass own = some m.cls) (hts : ∀ w ∈ ws_all, w.before args s = true) (hM : Met l y (wc y bytes maxL none) rm (va_Pc (.ref b :: As) Pw) Qc mc ms free)
    (hcd : Cond.code y bytes maxL none ∈ ws_all) (hlk : va_Nw (.methodLinkNest own index y host) s) (hin : Cond.instanceMethod y ∈ ws_all) (hini : Cond.initialized y.cls ∈ ws_all) (hy1 : y.name = "<init>")
    (hd : y.cls ≠ "java/lang/invoke/MethodHandle" ∧ y.cls ≠ "java/lang/invoke/VarHandle" ∧ (parseMethodDescriptor y.desc).map (fun d => d.parameters.length) = some nA) (hn : As.length = nA) (hrm : rm.cells = mc ∧ rm.slots = ms) (hR : rm.frames + 1 ≤ R.frames ∧ 8 + (maxL + 11) + rm.locals ≤ R.locals)
    (hbl : ∀ (U : State) (g : JFrame) (mk : MethodId) (a : Array Value), Pw U → Pw (U.calling g mk a)) (hpre : ∀ U : State, U.heap = H → s.WarmedH U.vm → Pw U)
    (hst : st0 = As.reverse ++ .ref b :: rest) (hW : (rest.map fun v => v.category).sum ≤ 8) (hdg : decode cc pc = .ok (.invokespecial index, 3)) (hf : cells + mc ≤ R.cells ∧ slots + ms ≤ R.slots) :
    va_Run p l e R s m args below meth c H locs cells slots mc ms (F0 m pc ls st0) rest (Qc (Value.ref b :: As).toArray) free :=
  va_runIN (host := host) ⟨hx, hb, hml, hown, hts⟩ hM ⟨va_cnB nA hts (goodAll hcd) rfl hrm.1 hrm.2 hlk (hts _ hini) hd hR, hy1, hts _ hin⟩ ⟨bBlind hbl, fun U h1 h2 => ⟨rfl, hpre U h1 h2⟩⟩ rfl hn rfl hst (lv_room hW) hdg hf
/-- a method's answers over a block: what it may have changed is the block and what is new -/
abbrev bQi {ρ : Type} (D : va_G) (ad : Nat → Nat) (n : Nat) (cell : Nat → ρ → va_E) (sz : Nat) (post : Int32 → (Nat → ρ) → Prop) : Array Value → State → Outcome → State → Prop := va_Qi post (fun M1 t => va_P D cls3 (bw ad n (fun j => cell j (M1 j))) t.heap) (bw_A ad n sz)
abbrev bQl {ρ : Type} (D : va_G) (ad : Nat → Nat) (n : Nat) (cell : Nat → ρ → va_E) (sz : Nat) (post : Int64 → (Nat → ρ) → Prop) : Array Value → State → Outcome → State → Prop := va_Ql post (fun M1 t => va_P D cls3 (bw ad n (fun j => cell j (M1 j))) t.heap) (bw_A ad n sz)
abbrev bQv {ρ : Type} (D : va_G) (ad : Nat → Nat) (n : Nat) (cell : Nat → ρ → va_E) (sz : Nat) (post : (Nat → ρ) → Prop) : Array Value → State → Outcome → State → Prop := va_Qv post (fun M1 t => va_P D cls3 (bw ad n (fun j => cell j (M1 j))) t.heap) (bw_A ad n sz)
abbrev bQr {ρ : Type} (D : va_G) (ad : Nat → Nat) (n : Nat) (cell : Nat → ρ → va_E) (sz : Nat) (ra : Nat) (post : (Nat → ρ) → Prop) : Array Value → State → Outcome → State → Prop := va_Qr post (fun M1 a t => a = ra ∧ va_P D cls3 (bw ad n (fun j => cell j (M1 j))) t.heap) (bw_A ad n sz)
variable {ρ : Type} {cell : Nat → ρ → va_E} {a : Array Value}
theorem bc_calli {post : Int32 → (Nat → ρ) → Prop} (hr : va_Run p l e R s m args below meth c H locs cells slots mc ms (F0 m pc ls st0) rest (bQi D ad n cell H.size post a) (bw_A ad n H.size)) (hS : va_S (bw_A ad n s.heap.size) s.heap H locs)
    (kk : ∀ (r : Int32) (M1 : Nat → ρ) (H1 : Heap) (locs1 : List Loc), post r M1 → va_P D cls3 (bw ad n (fun j => cell j (M1 j))) H1 → va_S (bw_A ad n s.heap.size) s.heap H1 locs1 → W p l e R s m args below meth c H1 locs1 (cells + mc) (slots + ms) Q (F0 m (pc + 3) ls (.int r :: rest))) : W p l e R s m args below meth c H locs cells slots Q (F0 m pc ls st0) :=
  va_calli hr hS (fun _ _ h => bw_A_mono hS.1 h) (fun _ h => bw_A_mono hS.1 h) (fun r u t H1 locs1 ht _ hw hB _ _ hS1 => kk r u H1 locs1 hw (by rw [← ht]; exact hB) hS1)
theorem bc_calll {post : Int64 → (Nat → ρ) → Prop} (hr : va_Run p l e R s m args below meth c H locs cells slots mc ms (F0 m pc ls st0) rest (bQl D ad n cell H.size post a) (bw_A ad n H.size)) (hS : va_S (bw_A ad n s.heap.size) s.heap H locs)
    (kk : ∀ (r : Int64) (M1 : Nat → ρ) (H1 : Heap) (locs1 : List Loc), post r M1 → va_P D cls3 (bw ad n (fun j => cell j (M1 j))) H1 → va_S (bw_A ad n s.heap.size) s.heap H1 locs1 → W p l e R s m args below meth c H1 locs1 (cells + mc) (slots + ms) Q (F0 m (pc + 3) ls (.long r :: rest))) : W p l e R s m args below meth c H locs cells slots Q (F0 m pc ls st0) :=
  va_calll hr hS (fun _ _ h => bw_A_mono hS.1 h) (fun _ h => bw_A_mono hS.1 h) (fun r u t H1 locs1 ht _ hw hB _ _ hS1 => kk r u H1 locs1 hw (by rw [← ht]; exact hB) hS1)
theorem bc_callv {post : (Nat → ρ) → Prop} (hr : va_Run p l e R s m args below meth c H locs cells slots mc ms (F0 m pc ls st0) rest (bQv D ad n cell H.size post a) (bw_A ad n H.size)) (hS : va_S (bw_A ad n s.heap.size) s.heap H locs)
    (kk : ∀ (M1 : Nat → ρ) (H1 : Heap) (locs1 : List Loc), post M1 → va_P D cls3 (bw ad n (fun j => cell j (M1 j))) H1 → va_S (bw_A ad n s.heap.size) s.heap H1 locs1 → W p l e R s m args below meth c H1 locs1 (cells + mc) (slots + ms) Q (F0 m (pc + 3) ls rest)) : W p l e R s m args below meth c H locs cells slots Q (F0 m pc ls st0) :=
  va_callv hr hS (fun _ _ h => bw_A_mono hS.1 h) (fun _ h => bw_A_mono hS.1 h) (fun u t H1 locs1 ht _ hw hB _ _ hS1 => kk u H1 locs1 hw (by rw [← ht]; exact hB) hS1)
theorem bc_callr {ra : Nat} {post : (Nat → ρ) → Prop} (hr : va_Run p l e R s m args below meth c H locs cells slots mc ms (F0 m pc ls st0) rest (bQr D ad n cell H.size ra post a) (bw_A ad n H.size)) (hS : va_S (bw_A ad n s.heap.size) s.heap H locs)
    (kk : ∀ (M1 : Nat → ρ) (H1 : Heap) (locs1 : List Loc), post M1 → va_P D cls3 (bw ad n (fun j => cell j (M1 j))) H1 → va_S (bw_A ad n s.heap.size) s.heap H1 locs1 → W p l e R s m args below meth c H1 locs1 (cells + mc) (slots + ms) Q (F0 m (pc + 3) ls (.ref ra :: rest))) : W p l e R s m args below meth c H locs cells slots Q (F0 m pc ls st0) :=
  va_callr hr hS (fun _ _ h => bw_A_mono hS.1 h) (fun _ h => bw_A_mono hS.1 h) (fun u a' t H1 locs1 ht _ hw hB _ _ hS1 => by
    obtain ⟨rfl, hB⟩ := hB
    exact kk u H1 locs1 hw (by rw [← ht]; exact hB) hS1)
/-- the receiver of a call on the object at place q -/
theorem bc_recv {f : Nat → va_E} (hE : bE D tys s) (hP : va_P D cls3 (bw ad n f) H) (q : Nat) (hq : q < n) {ci : Nat} {fs : List Value} (hf : f q = .inr (ci, fs)) {r : vw_C} (hc : cls3[ci]? = some r) : ∃ cellB : Cell, H[ad q]? = some cellB ∧ cellB.vm.isStatics = false ∧ s.vm.findClass r.1 = some cellB.cls :=
  va_recv hE.1 hP hc (bw_at hq hf)
/-- ends -/
theorem bc_ireti {post : Int32 → (Nat → ρ) → Prop} {M1 : Nat → ρ} {v : Int32} (hx : p.tables.exec = Jvm.exec) (hb : c.code = cc) (hr : meth.sig.returnType = some .int) (hlocks : meth.locks = false) (hP : va_P D cls3 (bw ad n (fun j => cell j (M1 j))) H) (hS : va_S (bw_A ad n s.heap.size) s.heap H locs) (hp : post v M1) (hdg : decode cc pc = .ok (.ireturn, 1)) :
    W p l e R s m args below meth c H locs cells slots (MQ below (bQi D ad n cell s.heap.size post) args s cells slots (bw_A ad n s.heap.size)) (F0 m pc ls [.int v]) :=
  W.iret (v := v) hx hb hr (fun t ht hW => ⟨⟨v, M1, rfl, hp, by show va_P _ _ _ t.heap; rw [ht]; exact hP⟩, hS.F ht⟩) hS.2.2 hdg
theorem bc_vret {post : (Nat → ρ) → Prop} {M1 : Nat → ρ} (hx : p.tables.exec = Jvm.exec) (hb : c.code = cc) (hr : meth.sig.returnType = none) (hlocks : meth.locks = false) (hP : va_P D cls3 (bw ad n (fun j => cell j (M1 j))) H) (hS : va_S (bw_A ad n s.heap.size) s.heap H locs) (hp : post M1) (hdg : decode cc pc = .ok (.return_, 1)) :
    W p l e R s m args below meth c H locs cells slots (MQ below (bQv D ad n cell s.heap.size post) args s cells slots (bw_A ad n s.heap.size)) (F0 m pc ls []) :=
  W.vret hx hb hr (fun t ht hW => ⟨⟨M1, rfl, hp, by show va_P _ _ _ t.heap; rw [ht]; exact hP⟩, hS.F ht⟩) hS.2.2 hdg
end BC
