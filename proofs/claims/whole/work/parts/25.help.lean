/-! THE LAW'S HELPERS: a call that may throw, caught; its answer into the law's array of one long -/
abbrev oc (cs : Nat → ClassId) (w : Nat) (g : Nat → Int64) : va_W := [(w, .inl (cs 3, 1, .inr (.inl g)))]
def lP (D : va_G) (cs : Nat → ClassId) (ad : Nat → Nat) (M : Nat → Nat → Int32) (sz w : Nat) (g : Nat → Int64) (U : State) : Prop := xP D cs ad M sz U ∧ va_P D cls3 (oc cs w g) U.heap
theorem lP.calling {D : va_G} {cs : Nat → ClassId} {ad : Nat → Nat} {M : Nat → Nat → Int32} {sz w : Nat} {g : Nat → Int64} {U : State} {g9 : JFrame} {mk : MethodId} {a : Array Value} (h : lP D cs ad M sz w g U) : lP D cs ad M sz w g (U.calling g9 mk a) := ⟨h.1.calling, h.2⟩
/-- what a helper may change: the class's block, the array, what is new -/
def lA (ad : Nat → Nat) (sz w : Nat) : Nat → Prop := fun q => bw_A ad 162 sz q ∨ q = w
abbrev lQ (D : va_G) (cs : Nat → ClassId) (ad : Nat → Nat) (sz w : Nat) (post : Int32 → (Nat → Nat → Int32) × (Nat → Int64) → Prop) : Array Value → State → Outcome → State → Prop := va_Qi post (fun u t => va_P D cls3 (bw ad 162 (fun k => sc_cell cs ad k (u.1 k))) t.heap ∧ va_P D cls3 (oc cs w u.2) t.heap) (lA ad sz w)
section LL
variable {p : Program} {l : Launch} {e : Env} {R : Room} {s : State} {m : MethodId} {args : Array Value} {below : List Frame} {meth : Method} {c : Code} {H : Heap} {locs : List Loc} {cells slots : Nat} {Q : State → Prop}
variable {cc : ByteArray} {pc : Nat} {ls : Array Slot} {rest : List Value} {D : va_G} {tys : List (ClassId × FieldType)} {ad : Nat → Nat} {n : Nat}
variable {own C : String} {index nA maxL mc ms : Nat} {y : MethodName} {bytes : ByteArray} {ret : Option FieldType} {rm : Room} {Qc : Array Value → State → Outcome → State → Prop} {XC : String → State → State → Prop} {free : Addr → Prop} {b : Nat} {As st0 : List Value} {Pw : State → Prop}
theorem ll_last (hx : p.tables.exec = Jvm.exec) (hb : c.code = cc) {cs : Nat → ClassId} (hE : bE D (a_tys cs) s) {f : Nat → va_E} {w : Nat} {g : Nat → Int64} (hP : va_P D cls3 (bw ad n f) H) (hO : va_P D cls3 (oc cs w g) H) (hne : ∀ k, k < n → ad k ≠ w) {A : Nat → Prop} (hS : va_S A s.heap H locs) (hAw : A w) {x : Int64} (hdg : decode cc pc = .ok (.lastore, 1))
    (kk : ∀ (H1 : Heap) (locs1 : List Loc), va_P D cls3 (bw ad n f) H1 → va_P D cls3 (oc cs w (vp_updL g 0 x)) H1 → va_S A s.heap H1 locs1 → W p l e R s m args below meth c H1 locs1 cells slots Q (F0 m (pc + 1) ls rest)) : W p l e R s m args below meth c H locs cells slots Q (F0 m pc ls (.long x :: .int (nI 0) :: .ref w :: rest)) := by
  refine W.last hx hb (hO 0 _ rfl) ((hE.1.2 3 _ rfl).1 1 (fun j => .long (g j))) (fun q => by cases q) (by show ¬ (nI 0 < 0 ∨ (arrV _ _ _).slots.size ≤ _); rw [arrV_size]; show ¬ (nI 0 < 0 ∨ 1 ≤ (nI 0).toNatClampNeg); decide) rfl rfl hdg fun H1 e z oq => ?_
  refine kk H1 _ (hP.kept fun k q hq => ?_) (fun k q hq => ?_) (hS.put z oq hAw)
  · obtain ⟨h1, rfl⟩ := bw_inv hq
    exact oq _ (hne k h1)
  · have h0 : k < 1 := (List.getElem?_eq_some_iff.mp hq).1
    rw [show k = 0 by omega] at hq
    cases hq
    show H1[w]? = some (vp_cell _ _)
    rw [e, vp_cell_l, vp_cell_l, arrV_store]
    congr 2
    funext q
    have h00 : (nI 0).toNatClampNeg = 0 := by decide
    rw [h00]
    by_cases hq : q = 0
    · subst hq
      simp [updV, vp_updL]
    · simp [updV, vp_updL, hq]
theorem bx_runV (hx : p.tables.exec = Jvm.exec) (hb : c.code = cc) (hml : c.maxLocals = ls.size) (hown : s.vm.findClass own = some m.cls) (hts : ∀ w ∈ ws_all, w.before args s = true) (hM : vx_Met l y (wc y bytes maxL ret) rm (va_Pc (.ref b :: As) Pw) Qc XC mc ms free)
    (hcd : Cond.code y bytes maxL ret ∈ ws_all) (hlk : Cond.methodLink own index y ∈ ws_all) (hin : Cond.instanceMethod y ∈ ws_all) (hse : Cond.selects C y y ∈ ws_all) (hini : Cond.initialized C ∈ ws_all)
    (hd : y.cls = C ∧ y.cls ≠ "java/lang/invoke/MethodHandle" ∧ y.cls ≠ "java/lang/invoke/VarHandle" ∧ (parseMethodDescriptor y.desc).map (fun d => d.parameters.length) = some nA) (hn : As.length = nA) (hrm : rm.cells = mc ∧ rm.slots = ms) (hR : rm.frames + 1 ≤ R.frames ∧ 8 + (maxL + 11) + rm.locals ≤ R.locals)
    (hbl : ∀ (U : State) (g : JFrame) (mk : MethodId) (a : Array Value), Pw U → Pw (U.calling g mk a)) (hrv : ∃ cellB : Cell, H[b]? = some cellB ∧ cellB.vm.isStatics = false ∧ s.vm.findClass C = some cellB.cls) (hpre : ∀ U : State, U.heap = H → s.WarmedH U.vm → Pw U)
    (hst : st0 = As.reverse ++ .ref b :: rest) (hW : (rest.map fun v => v.category).sum ≤ 8) (hdg : decode cc pc = .ok (.invokevirtual index, 3)) (hf : cells + mc ≤ R.cells ∧ slots + ms ≤ R.slots) :
    vx_Run p l e R s m args below meth c H locs cells slots mc ms (F0 m pc ls st0) rest (Qc (Value.ref b :: As).toArray) XC free :=
  vx_runV (C := C) ⟨hx, hb, hml, hown, hts⟩ hM (cwV nA hts (goodV hlk hin hse hini hcd) rfl hrm.1 hrm.2 hd hR) ⟨bBlind hbl, hrv, fun U h1 h2 => ⟨rfl, hpre U h1 h2⟩⟩ rfl hn rfl hst (lv_room hW) hdg hf
theorem bx_runSW {hh : List (Nat × Nat × Nat × Nat)} (hx : p.tables.exec = Jvm.exec) (hb : c.code = cc) (hml : c.maxLocals = ls.size) (hown : s.vm.findClass own = some m.cls) (hts : ∀ w ∈ ws_all, w.before args s = true) (hM : Met l y (Cond.codeWith y bytes maxL ret hh :: ws_all) rm (va_Pc As Pw) Qc mc ms free)
    (hcd : Cond.codeWith y bytes maxL ret hh ∈ ws_all) (hlk : Cond.methodLink own index y ∈ ws_all) (hst' : Cond.static y ∈ ws_all) (hini : Cond.initialized y.cls ∈ ws_all)
    (hd : y.cls ≠ "java/lang/invoke/MethodHandle" ∧ y.cls ≠ "java/lang/invoke/VarHandle" ∧ (parseMethodDescriptor y.desc).map (fun d => d.parameters.length) = some nA) (hn : As.length = nA) (hrm : rm.cells = mc ∧ rm.slots = ms) (hR : rm.frames + 1 ≤ R.frames ∧ 8 + (maxL + 11) + rm.locals ≤ R.locals)
    (hbl : ∀ (U : State) (g : JFrame) (mk : MethodId) (a : Array Value), Pw U → Pw (U.calling g mk a)) (hpre : ∀ U : State, U.heap = H → s.WarmedH U.vm → Pw U)
    (hst : st0 = As.reverse ++ rest) (hW : (rest.map fun v => v.category).sum ≤ 8) (hdg : decode cc pc = .ok (.invokestatic index, 3)) (hf : cells + mc ≤ R.cells ∧ slots + ms ≤ R.slots) :
    va_Run p l e R s m args below meth c H locs cells slots mc ms (F0 m pc ls st0) rest (Qc As.toArray) free :=
  vx_runSW ⟨hx, hb, hml, hown, hts⟩ hM (vx_cwSW nA hts (goodS hlk hst' hini hcd) rfl hrm.1 hrm.2 hd hR) ⟨bBlind hbl, fun U h1 h2 => ⟨rfl, hpre U h1 h2⟩⟩ rfl hn rfl hst (lv_room hW) hdg hf
end LL
theorem sZ.go {A : Nat → Prop} {s U : State} (hU : U.heap = s.heap) (hW : s.WarmedH U.vm) (h : sZ A s) : sZ A U := by
  obtain ⟨h1, h2⟩ := h
  have a1 := vx_Zq.moved (u := s) (U := U) hW.alike h1
  have a2 := vx_Zq.moved (u := s) (U := U) hW.alike h2
  unfold sZ
  rw [hU]
  exact ⟨a1, a2⟩
theorem thr_cast : Cond.castable nse nse ∈ thrW := List.mem_of_getElem? (i := 0) rfl
theorem oc_kept {cs : Nat → ClassId} {ad : Nat → Nat} {w : Nat} {g : Nat → Int64} {H H1 : Heap} (hne : ∀ k, k < 162 → ad k ≠ w) (hk : ∀ q : Nat, q < H.size → ¬ bw_A ad 162 H.size q → H1[q]? = H[q]?) (hlt : ∀ q : Nat × va_E, (oc cs w g)[0]? = some q → q.1 < H.size) : ∀ (k : Nat) (q : Nat × va_E), (oc cs w g)[k]? = some q → H1[q.1]? = H[q.1]? := fun k q hq => by
  have h0 : k < 1 := (List.getElem?_eq_some_iff.mp hq).1
  rw [show k = 0 by omega] at hq
  have hl := hlt q hq
  cases hq
  refine hk _ hl (fun h => ?_)
  rcases h with ⟨k, hk, e⟩ | h
  · exact hne k hk e.symm
  · exact absurd hl (Nat.not_lt.mpr h)
set_option maxHeartbeats 4000000 in
set_option maxRecDepth 100000 in
theorem kL_world (l : Launch) (hl0 : l.stackTraces = false) (D : va_G) (cs : Nat → ClassId) (ad : Nat → Nat) (hI : bw_I ad 162) (M : Nat → Nat → Int32) (sz : Nat) (A : Ab) (hC : Cls A M) (n i j : Int32) (w : Nat) (hne : ∀ k, k < 162 → ad k ≠ w) (g : Nat → Int64) : Met l yL_world (Cond.codeWith yL_world cL_world 6 (some .int) [(0, 12, 15, 13)] :: ws_all) ({ frames := 7, cells := 1, slots := 6, locals := 134 } : Room) (va_Pc [.ref (ad 0), .int n, .int i, .int j, .ref w] (lP D cs ad M sz w g)) (lQ D cs ad sz w (fun r u => Cls A u.1 ∧ ((pCell A n i j ∧ r = nI 0 ∧ u.2 0 = (wA A n.toNatClampNeg (4 * i.toNatClampNeg + j.toNatClampNeg)).toInt64) ∨ (¬ pCell A n i j ∧ r = nI 1)))) 1 6 (lA ad sz w) := by
  refine va_MetW (cc := cL_world) (maxL := 6) (ret := some .int) (hh := [(0, 12, 15, 13)]) (by decide +kernel) rfl ?_
  intro p e s m args below meth c s₁ B hml hv
  obtain ⟨rfl, ⟨⟨hsz, hP, hE⟩, hthr, hsZ⟩, hO⟩ := hv
  subst hsz
  have hx := B.exec
  have hb := B.bytes
  have hr := B.returns
  have hts : ∀ w9 ∈ ws_all, w9.before ([.ref (ad 0), .int n, .int i, .int j, .ref w] : List Value).toArray s = true := fun w9 h => atoms_spec (ws := (Cond.codeWith yL_world cL_world 6 (some .int) [(0, 12, 15, 13)] :: ws_all)) B.pre w9 (List.mem_cons_of_mem _ h)
  have hown : s.vm.findClass RL = some m.cls := findClass_of_methodNamed B.named
  have hlocks := B.notSynchronized
  have hS : va_S (lA ad s.heap.size w) s.heap s.heap [] := va_S.rf
  have htab := vx_table (x := yL_world) B (hts _ w_226)
  have hl := lv_entry ([.ref (ad 0), .int n, .int i, .int j, .ref w]) (n := 6) (Nat.le_of_ble_eq_true rfl)
  rw [lg_entry_eq]
  generalize (lg_sl ([.ref (ad 0), .int n, .int i, .int j, .ref w]) ++ List.replicate (6 - (lg_sl ([.ref (ad 0), .int n, .int i, .int j, .ref w])).length) Slot.unset).toArray = ls at hl ⊢
  have hl : lv_has ls 6 [(0, .ref (ad 0)), (1, .int n), (2, .int i), (3, .int j), (4, .ref w)] := hl
  refine lv_aload hx hb dL_world_0 (lv_at hl 4 rfl) ?_
  refine lv_iconst (v := nI 0) hx hb dL_world_2 (by decide) ?_
  refine lv_aload_n hx hb dL_world_3 rfl (lv_at hl 0 rfl) ?_
  refine lv_iload_n hx hb dL_world_4 rfl (lv_at hl 1 rfl) ?_
  refine lv_iload_n hx hb dL_world_5 rfl (lv_at hl 2 rfl) ?_
  refine lv_iload_n hx hb dL_world_6 rfl (lv_at hl 3 rfl) ?_
  refine vx_calli (bx_runV (own := RL) (C := RS) (As := [.int n, .int i, .int j]) (rest := [.int (nI 0), .ref w]) hx hb (hml.trans hl.1.symm) hown hts (kS_world l hl0 D cs ad hI M s.heap.size A hC n i j) w_231 w_228 w_229 w_230 w_1 ⟨rfl, hd_S_world⟩ rfl ⟨rfl, rfl⟩ ⟨Nat.le_of_ble_eq_true rfl, Nat.le_of_ble_eq_true rfl⟩ (fun _ _ _ _ h => h.calling) (bc_recv (r := (RS, TS, 14)) hE hP 0 (by decide) rfl rfl) (fun U hU hW => ⟨⟨by rw [hU], by rw [hU]; exact hP, hE.warm hW⟩, hthr.warm hW, sZ.go hU hW hsZ⟩) rfl (Nat.le_of_ble_eq_true rfl) dL_world_7 ⟨Nat.le_of_ble_eq_true rfl, Nat.le_of_ble_eq_true rfl⟩) hS (fun q _ h => Or.inl h) (fun q h => Or.inl h) (fun q _ h => Or.inl h) (fun E ce q9 M1 t H locs ht _ hp hB hz1 hk1 hS hce hcv hcl => ?_) (fun r M1 t H locs ht _ hp hB hz1 hk1 hS => ?_)
  · obtain ⟨rfl, hP1⟩ := hB
    rw [ht] at hP1
    have hO1 := hO.kept (H1 := H) (oc_kept hne hk1 (fun q hq => hO _ _ hq |>.lt))
    refine vx_catch (own := RL) (name := nse) (E := nse) hown [] _ [] (by rw [htab]; rfl) (fun z hz => nomatch hz) (by decide) (by decide) (hts _ w_227) (va_Nw.use (thrW_ot _ thr_cast) (hthr _ thr_cast)) hce hcv hcl ?_
    refine lv_astore (lv' := [(5, .ref q9), (0, .ref (ad 0)), (1, .int n), (2, .int i), (3, .int j), (4, .ref w)]) hx hb dL_world_15 hl (by decide) rfl (fun ls hl => ?_)
    refine lv_iconst (v := nI 1) hx hb dL_world_17 (by decide) ?_
    exact W.iret (v := nI 1) hx hb hr (fun t ht hW => ⟨⟨_, (M1, g), rfl, ⟨hp.2, Or.inr ⟨hp.1, rfl⟩⟩, by show va_P _ _ _ t.heap; rw [ht]; exact hP1, by show va_P _ _ _ t.heap; rw [ht]; exact hO1⟩, hS.F ht⟩) hS.2.2 dL_world_18
  · rw [ht] at hB
    have hO1 := hO.kept (H1 := H) (oc_kept hne hk1 (fun q hq => hO _ _ hq |>.lt))
    refine lv_i2l (v := r.toInt64) hx hb dL_world_10 rfl ?_
    refine ll_last hx hb hE hB hO1 hne hS (Or.inr rfl) dL_world_11 (fun H locs hP hO hS => ?_)
    refine lv_goto (tgt := 19) hx hb dL_world_12 (by decide) ?_
    refine lv_iconst (v := nI 0) hx hb dL_world_19 (by decide) ?_
    exact W.iret (v := nI 0) hx hb hr (fun t ht hW => ⟨⟨_, (M1, vp_updL g 0 r.toInt64), rfl, ⟨hp.2.2, Or.inl ⟨hp.2.1, rfl, by rw [← hp.1]; rfl⟩⟩, by show va_P _ _ _ t.heap; rw [ht]; exact hP, by show va_P _ _ _ t.heap; rw [ht]; exact hO⟩, hS.F ht⟩) hS.2.2 dL_world_20
set_option maxHeartbeats 4000000 in
set_option maxRecDepth 100000 in
theorem kL_model (l : Launch) (hl0 : l.stackTraces = false) (D : va_G) (cs : Nat → ClassId) (ad : Nat → Nat) (hI : bw_I ad 162) (M : Nat → Nat → Int32) (sz : Nat) (A : Ab) (hC : Cls A M) (n i j : Int32) (w : Nat) (hne : ∀ k, k < 162 → ad k ≠ w) (g : Nat → Int64) : Met l yL_model (Cond.codeWith yL_model cL_model 6 (some .int) [(0, 12, 15, 13)] :: ws_all) ({ frames := 7, cells := 1, slots := 6, locals := 134 } : Room) (va_Pc [.ref (ad 0), .int n, .int i, .int j, .ref w] (lP D cs ad M sz w g)) (lQ D cs ad sz w (fun r u => Cls A u.1 ∧ ((pCell A n i j ∧ r = nI 0 ∧ u.2 0 = (mA A n.toNatClampNeg i.toNatClampNeg j.toNatClampNeg).toInt64) ∨ (¬ pCell A n i j ∧ r = nI 1)))) 1 6 (lA ad sz w) := by
  refine va_MetW (cc := cL_model) (maxL := 6) (ret := some .int) (hh := [(0, 12, 15, 13)]) (by decide +kernel) rfl ?_
  intro p e s m args below meth c s₁ B hml hv
  obtain ⟨rfl, ⟨⟨hsz, hP, hE⟩, hthr, hsZ⟩, hO⟩ := hv
  subst hsz
  have hx := B.exec
  have hb := B.bytes
  have hr := B.returns
  have hts : ∀ w9 ∈ ws_all, w9.before ([.ref (ad 0), .int n, .int i, .int j, .ref w] : List Value).toArray s = true := fun w9 h => atoms_spec (ws := (Cond.codeWith yL_model cL_model 6 (some .int) [(0, 12, 15, 13)] :: ws_all)) B.pre w9 (List.mem_cons_of_mem _ h)
  have hown : s.vm.findClass RL = some m.cls := findClass_of_methodNamed B.named
  have hlocks := B.notSynchronized
  have hS : va_S (lA ad s.heap.size w) s.heap s.heap [] := va_S.rf
  have htab := vx_table (x := yL_model) B (hts _ w_298)
  have hl := lv_entry ([.ref (ad 0), .int n, .int i, .int j, .ref w]) (n := 6) (Nat.le_of_ble_eq_true rfl)
  rw [lg_entry_eq]
  generalize (lg_sl ([.ref (ad 0), .int n, .int i, .int j, .ref w]) ++ List.replicate (6 - (lg_sl ([.ref (ad 0), .int n, .int i, .int j, .ref w])).length) Slot.unset).toArray = ls at hl ⊢
  have hl : lv_has ls 6 [(0, .ref (ad 0)), (1, .int n), (2, .int i), (3, .int j), (4, .ref w)] := hl
  refine lv_aload hx hb dL_model_0 (lv_at hl 4 rfl) ?_
  refine lv_iconst (v := nI 0) hx hb dL_model_2 (by decide) ?_
  refine lv_aload_n hx hb dL_model_3 rfl (lv_at hl 0 rfl) ?_
  refine lv_iload_n hx hb dL_model_4 rfl (lv_at hl 1 rfl) ?_
  refine lv_iload_n hx hb dL_model_5 rfl (lv_at hl 2 rfl) ?_
  refine lv_iload_n hx hb dL_model_6 rfl (lv_at hl 3 rfl) ?_
  refine vx_calli (bx_runV (own := RL) (C := RS) (As := [.int n, .int i, .int j]) (rest := [.int (nI 0), .ref w]) hx hb (hml.trans hl.1.symm) hown hts (kS_model l hl0 D cs ad hI M s.heap.size A hC n i j) w_302 w_299 w_300 w_301 w_1 ⟨rfl, hd_S_model⟩ rfl ⟨rfl, rfl⟩ ⟨Nat.le_of_ble_eq_true rfl, Nat.le_of_ble_eq_true rfl⟩ (fun _ _ _ _ h => h.calling) (bc_recv (r := (RS, TS, 14)) hE hP 0 (by decide) rfl rfl) (fun U hU hW => ⟨⟨by rw [hU], by rw [hU]; exact hP, hE.warm hW⟩, hthr.warm hW, sZ.go hU hW hsZ⟩) rfl (Nat.le_of_ble_eq_true rfl) dL_model_7 ⟨Nat.le_of_ble_eq_true rfl, Nat.le_of_ble_eq_true rfl⟩) hS (fun q _ h => Or.inl h) (fun q h => Or.inl h) (fun q _ h => Or.inl h) (fun E ce q9 M1 t H locs ht _ hp hB hz1 hk1 hS hce hcv hcl => ?_) (fun r M1 t H locs ht _ hp hB hz1 hk1 hS => ?_)
  · obtain ⟨rfl, hP1⟩ := hB
    rw [ht] at hP1
    have hO1 := hO.kept (H1 := H) (oc_kept hne hk1 (fun q hq => hO _ _ hq |>.lt))
    refine vx_catch (own := RL) (name := nse) (E := nse) hown [] _ [] (by rw [htab]; rfl) (fun z hz => nomatch hz) (by decide) (by decide) (hts _ w_227) (va_Nw.use (thrW_ot _ thr_cast) (hthr _ thr_cast)) hce hcv hcl ?_
    refine lv_astore (lv' := [(5, .ref q9), (0, .ref (ad 0)), (1, .int n), (2, .int i), (3, .int j), (4, .ref w)]) hx hb dL_model_15 hl (by decide) rfl (fun ls hl => ?_)
    refine lv_iconst (v := nI 1) hx hb dL_model_17 (by decide) ?_
    exact W.iret (v := nI 1) hx hb hr (fun t ht hW => ⟨⟨_, (M1, g), rfl, ⟨hp.2, Or.inr ⟨hp.1, rfl⟩⟩, by show va_P _ _ _ t.heap; rw [ht]; exact hP1, by show va_P _ _ _ t.heap; rw [ht]; exact hO1⟩, hS.F ht⟩) hS.2.2 dL_model_18
  · rw [ht] at hB
    have hO1 := hO.kept (H1 := H) (oc_kept hne hk1 (fun q hq => hO _ _ hq |>.lt))
    refine lv_i2l (v := r.toInt64) hx hb dL_model_10 rfl ?_
    refine ll_last hx hb hE hB hO1 hne hS (Or.inr rfl) dL_model_11 (fun H locs hP hO hS => ?_)
    refine lv_goto (tgt := 19) hx hb dL_model_12 (by decide) ?_
    refine lv_iconst (v := nI 0) hx hb dL_model_19 (by decide) ?_
    exact W.iret (v := nI 0) hx hb hr (fun t ht hW => ⟨⟨_, (M1, vp_updL g 0 r.toInt64), rfl, ⟨hp.2.2, Or.inl ⟨hp.2.1, rfl, by rw [← hp.1]; rfl⟩⟩, by show va_P _ _ _ t.heap; rw [ht]; exact hP, by show va_P _ _ _ t.heap; rw [ht]; exact hO⟩, hS.F ht⟩) hS.2.2 dL_model_20
set_option maxHeartbeats 4000000 in
set_option maxRecDepth 100000 in
theorem kL_about (l : Launch) (hl0 : l.stackTraces = false) (D : va_G) (cs : Nat → ClassId) (ad : Nat → Nat) (hI : bw_I ad 162) (M : Nat → Nat → Int32) (sz : Nat) (A : Ab) (hC : Cls A M) (n i : Int32) (w : Nat) (hne : ∀ k, k < 162 → ad k ≠ w) (g : Nat → Int64) : Met l yL_about (Cond.codeWith yL_about cL_about 5 (some .int) [(0, 10, 13, 13)] :: ws_all) ({ frames := 7, cells := 1, slots := 6, locals := 103 } : Room) (va_Pc [.ref (ad 0), .int n, .int i, .ref w] (lP D cs ad M sz w g)) (lQ D cs ad sz w (fun r u => Cls A u.1 ∧ ((pAbt A n i ∧ r = nI 0 ∧ u.2 0 = (abA A n.toNatClampNeg i.toNatClampNeg).toInt64) ∨ (¬ pAbt A n i ∧ r = nI 1)))) 1 6 (lA ad sz w) := by
  refine va_MetW (cc := cL_about) (maxL := 5) (ret := some .int) (hh := [(0, 10, 13, 13)]) (by decide +kernel) rfl ?_
  intro p e s m args below meth c s₁ B hml hv
  obtain ⟨rfl, ⟨⟨hsz, hP, hE⟩, hthr, hsZ⟩, hO⟩ := hv
  subst hsz
  have hx := B.exec
  have hb := B.bytes
  have hr := B.returns
  have hts : ∀ w9 ∈ ws_all, w9.before ([.ref (ad 0), .int n, .int i, .ref w] : List Value).toArray s = true := fun w9 h => atoms_spec (ws := (Cond.codeWith yL_about cL_about 5 (some .int) [(0, 10, 13, 13)] :: ws_all)) B.pre w9 (List.mem_cons_of_mem _ h)
  have hown : s.vm.findClass RL = some m.cls := findClass_of_methodNamed B.named
  have hlocks := B.notSynchronized
  have hS : va_S (lA ad s.heap.size w) s.heap s.heap [] := va_S.rf
  have htab := vx_table (x := yL_about) B (hts _ w_305)
  have hl := lv_entry ([.ref (ad 0), .int n, .int i, .ref w]) (n := 5) (Nat.le_of_ble_eq_true rfl)
  rw [lg_entry_eq]
  generalize (lg_sl ([.ref (ad 0), .int n, .int i, .ref w]) ++ List.replicate (5 - (lg_sl ([.ref (ad 0), .int n, .int i, .ref w])).length) Slot.unset).toArray = ls at hl ⊢
  have hl : lv_has ls 5 [(0, .ref (ad 0)), (1, .int n), (2, .int i), (3, .ref w)] := hl
  refine lv_aload_n hx hb dL_about_0 rfl (lv_at hl 3 rfl) ?_
  refine lv_iconst (v := nI 0) hx hb dL_about_1 (by decide) ?_
  refine lv_aload_n hx hb dL_about_2 rfl (lv_at hl 0 rfl) ?_
  refine lv_iload_n hx hb dL_about_3 rfl (lv_at hl 1 rfl) ?_
  refine lv_iload_n hx hb dL_about_4 rfl (lv_at hl 2 rfl) ?_
  refine vx_calli (bx_runV (own := RL) (C := RS) (As := [.int n, .int i]) (rest := [.int (nI 0), .ref w]) hx hb (hml.trans hl.1.symm) hown hts (kS_about l hl0 D cs ad hI M s.heap.size A hC n i) w_309 w_306 w_307 w_308 w_1 ⟨rfl, hd_S_about⟩ rfl ⟨rfl, rfl⟩ ⟨Nat.le_of_ble_eq_true rfl, Nat.le_of_ble_eq_true rfl⟩ (fun _ _ _ _ h => h.calling) (bc_recv (r := (RS, TS, 14)) hE hP 0 (by decide) rfl rfl) (fun U hU hW => ⟨⟨by rw [hU], by rw [hU]; exact hP, hE.warm hW⟩, hthr.warm hW, sZ.go hU hW hsZ⟩) rfl (Nat.le_of_ble_eq_true rfl) dL_about_5 ⟨Nat.le_of_ble_eq_true rfl, Nat.le_of_ble_eq_true rfl⟩) hS (fun q _ h => Or.inl h) (fun q h => Or.inl h) (fun q _ h => Or.inl h) (fun E ce q9 M1 t H locs ht _ hp hB hz1 hk1 hS hce hcv hcl => ?_) (fun r M1 t H locs ht _ hp hB hz1 hk1 hS => ?_)
  · obtain ⟨rfl, hP1⟩ := hB
    rw [ht] at hP1
    have hO1 := hO.kept (H1 := H) (oc_kept hne hk1 (fun q hq => hO _ _ hq |>.lt))
    refine vx_catch (own := RL) (name := nse) (E := nse) hown [] _ [] (by rw [htab]; rfl) (fun z hz => nomatch hz) (by decide) (by decide) (hts _ w_227) (va_Nw.use (thrW_ot _ thr_cast) (hthr _ thr_cast)) hce hcv hcl ?_
    refine lv_astore (lv' := [(4, .ref q9), (0, .ref (ad 0)), (1, .int n), (2, .int i), (3, .ref w)]) hx hb dL_about_13 hl (by decide) rfl (fun ls hl => ?_)
    refine lv_iconst (v := nI 1) hx hb dL_about_15 (by decide) ?_
    exact W.iret (v := nI 1) hx hb hr (fun t ht hW => ⟨⟨_, (M1, g), rfl, ⟨hp.2, Or.inr ⟨hp.1, rfl⟩⟩, by show va_P _ _ _ t.heap; rw [ht]; exact hP1, by show va_P _ _ _ t.heap; rw [ht]; exact hO1⟩, hS.F ht⟩) hS.2.2 dL_about_16
  · rw [ht] at hB
    have hO1 := hO.kept (H1 := H) (oc_kept hne hk1 (fun q hq => hO _ _ hq |>.lt))
    refine lv_i2l (v := r.toInt64) hx hb dL_about_8 rfl ?_
    refine ll_last hx hb hE hB hO1 hne hS (Or.inr rfl) dL_about_9 (fun H locs hP hO hS => ?_)
    refine lv_goto (tgt := 17) hx hb dL_about_10 (by decide) ?_
    refine lv_iconst (v := nI 0) hx hb dL_about_17 (by decide) ?_
    exact W.iret (v := nI 0) hx hb hr (fun t ht hW => ⟨⟨_, (M1, vp_updL g 0 r.toInt64), rfl, ⟨hp.2.2, Or.inl ⟨hp.2.1, rfl, by rw [← hp.1]; rfl⟩⟩, by show va_P _ _ _ t.heap; rw [ht]; exact hP, by show va_P _ _ _ t.heap; rw [ht]; exact hO⟩, hS.F ht⟩) hS.2.2 dL_about_18
