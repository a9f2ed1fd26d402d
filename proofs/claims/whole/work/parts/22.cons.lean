/-! CONSTRUCTORS: a block that grows; place k lies at the address o + k, and the heap ends behind the block -/
abbrev ca (o : Nat) : Nat → Nat := fun k => o + k
abbrev gA (o : Nat) : Nat → Prop := fun q => o ≤ q
theorem ca_I (o n : Nat) : bw_I (ca o) n := fun i j _ _ h => by
  have h : o + i = o + j := h
  omega
def aoN (U : State) : Prop := (Cond.arrayOver (.array .int)).before #[] U = true
theorem aoN.alike {s U : State} (h : s.vm.Alike U.vm) (hn : aoN s) : aoN U := arrayOver_alikeB h hn
theorem aoN.use {s : State} {args : Array Value} (h : aoN s) : (Cond.arrayOver (.array .int)).before args s = true := arrayOver_alikeB (Vm.Alike.refl s.vm) h
def cPre (D : va_G) (cs : Nat → ClassId) (o ci : Nat) (fs : List Value) (U : State) : Prop := U.heap.size = o + 1 ∧ va_P D cls3 (bw (ca o) 1 (fun _ => .inr (ci, fs))) U.heap ∧ bE D (a_tys cs) U ∧ aoN U
theorem cPre.calling {D : va_G} {cs : Nat → ClassId} {o ci : Nat} {fs : List Value} {U : State} {g : JFrame} {mk : MethodId} {a : Array Value} (h : cPre D cs o ci fs U) : cPre D cs o ci fs (U.calling g mk a) := ⟨h.1, h.2.1, h.2.2.1.calling, aoN.alike (s := U) (Vm.Alike.refl U.vm) h.2.2.2⟩
theorem bw_cong {ad : Nat → Nat} {n : Nat} {f g : Nat → va_E} (h : ∀ k, k < n → f k = g k) : bw ad n f = bw ad n g := by
  unfold bw
  refine List.map_congr_left (fun k hk => ?_)
  rw [h k (List.mem_range.mp hk)]
theorem bw_P {D : va_G} {ad : Nat → Nat} {n : Nat} {f : Nat → va_E} {H : Heap} (h : ∀ k, k < n → va_at D cls3 (ad k, f k) H) : va_P D cls3 (bw ad n f) H := fun k q hq => by
  obtain ⟨h1, rfl⟩ := bw_inv hq
  exact h k h1
theorem bw_Pat {D : va_G} {ad : Nat → Nat} {n : Nat} {f : Nat → va_E} {H : Heap} (hP : va_P D cls3 (bw ad n f) H) {k : Nat} (hk : k < n) : va_at D cls3 (ad k, f k) H := hP k _ (bw_at hk rfl)
theorem va_at_kept {D : va_G} {q : Nat × va_E} {H H1 : Heap} (h : va_at D cls3 q H) (he : H1[q.1]? = H[q.1]?) : va_at D cls3 q H1 := by
  have hP : va_P D cls3 [q] H := fun k x hx => by
    have h0 : k < 1 := (List.getElem?_eq_some_iff.mp hx).1
    rw [show k = 0 by omega] at hx
    cases hx
    exact h
  exact (hP.kept (H1 := H1) (fun k x hx => by
    have h0 : k < 1 := (List.getElem?_eq_some_iff.mp hx).1
    rw [show k = 0 by omega] at hx
    cases hx
    exact he)) 0 _ rfl
theorem vr_outer (c : ClassId) (N h0 : Nat) : ∀ i : Nat, Jvm.Free.Multi.outerC c N h0 i = arrV c N (fun j => va_rf (if j < i then some (h0 + 1 + j) else none))
  | 0 => by
    show ({ cls := c, slots := Array.replicate N .null, vm := .none } : Cell) = _
    rw [arrV_new]
    refine congrArg (arrV c N) (funext fun j => ?_)
    simp [va_rf]
  | i + 1 => by
    show (Jvm.Free.Multi.outerC c N h0 i).setSlot i (.ref (h0 + 1 + i)) = _
    rw [vr_outer c N h0 i, arrV_store]
    refine congrArg (arrV c N) (funext fun j => ?_)
    by_cases e : j = i
    · subst e
      simp [updV, va_rf]
    · by_cases h : j < i
      · simp [updV, e, h, Nat.lt_succ_of_lt h]
      · simp [updV, e, h, show ¬ j < i + 1 by omega]
section CN
variable {p : Program} {l : Launch} {e : Env} {R : Room} {s : State} {m : MethodId} {args : Array Value} {below : List Frame} {meth : Method} {c : Code} {H : Heap} {locs : List Loc} {cells slots : Nat} {Q : State → Prop}
variable {cc : ByteArray} {pc : Nat} {ls : Array Slot} {rest : List Value} {D : va_G} {tys : List (ClassId × FieldType)} {A : Nat → Prop}
theorem cn_new (hx : p.tables.exec = Jvm.exec) (hb : c.code = cc) {atype : ArrayType} {ty : FieldType} (hty : newarray.typeOf atype = ty) (harr : (Cond.arrayClass ty).before args s = true) {o k : Nat} {f : Nat → va_E} (hP : va_P D cls3 (bw (ca o) k f) H) (hz : H.size = o + k) (hS : va_S A s.heap H locs) {cA : ClassId} (hcA : s.vm.findClass ("[" ++ ty.toString) = some cA) {N : Nat} {a0 : vp_A} (hf : f k = .inl (cA, a0)) (ha : vp_cell cA a0 = arrV cA N (fun _ => defaultValue ty)) (hN : N < 2147483648) (hbytes : N * componentBytes ty ≤ 536870912) (hcells : cells + 1 ≤ R.cells) (hslots : slots + N ≤ R.slots) (hdg : decode cc pc = .ok (.newarray atype, 2))
    (kk : ∀ H1 : Heap, va_P D cls3 (bw (ca o) (k + 1) f) H1 → H1.size = o + (k + 1) → va_S A s.heap H1 locs → W p l e R s m args below meth c H1 locs (cells + 1) (slots + N) Q (F0 m (pc + 2) ls (.ref (o + k) :: rest))) : W p l e R s m args below meth c H locs cells slots Q (F0 m pc ls (.int (nI N) :: rest)) := by
  subst hty
  refine va_newaK hx hb harr rfl hdg rfl (nI_pos hN) (nI_clamp hN) hbytes hcells hslots hz fun H1 cB e1 z1 o1 hAr hNm => ?_
  have hc : cB = cA := Option.some.inj (hNm.symm.trans hcA)
  subst hc
  refine kk H1 (bw_P fun j hj => ?_) z1 ⟨Nat.le_trans hS.1 (by omega), fun x h1 h2 => (o1 x (by have := hS.1; omega)).trans (hS.2.1 x h1 h2), hS.2.2⟩
  by_cases h : j < k
  · exact va_at_kept (bw_Pat hP h) (o1 (o + j) (by omega))
  · have hj : j = k := by omega
    subst hj
    rw [hf]
    show H1[o + j]? = some (vp_cell _ _)
    rw [ha]
    exact e1
theorem cn_mna (hx : p.tables.exec = Jvm.exec) (hb : c.code = cc) {own : String} {index : Nat} (hown : s.vm.findClass own = some m.cls) (hclink : (Cond.classLink own index "[[I").before args s = true) (hover : (Cond.arrayOver (.array .int)).before args s = true) (harr : (Cond.arrayClass .int).before args s = true) {o k : Nat} {f : Nat → va_E} (hP : va_P D cls3 (bw (ca o) k f) H) (hz : H.size = o + k) (hS : va_S A s.heap H locs) {cA cy : ClassId} (hcA : s.vm.findClass "[[I" = some cA) (hcy : s.vm.findClass "[I" = some cy) {N K : Nat} (hf : f k = .inl (cA, N, .inr (.inr (.inr (.inr (fun i => if i < N then some (o + (k + 1 + i)) else none)))))) (hrw : ∀ i, i < N → f (k + 1 + i) = .inl (cy, K, .inl (fun _ => 0))) (hN : N < 1000) (hK : K < 1000) (hcells : cells + (1 + N) ≤ R.cells) (hslots : slots + (N + N * K) ≤ R.slots) (hdg : decode cc pc = .ok (.multianewarray index 2, 4))
    (kk : ∀ H1 : Heap, va_P D cls3 (bw (ca o) (k + (1 + N)) f) H1 → H1.size = o + (k + (1 + N)) → va_S A s.heap H1 locs → W p l e R s m args below meth c H1 locs (cells + 1 + N) (slots + N + N * K) Q (F0 m (pc + 4) ls (.ref (o + k) :: rest))) : W p l e R s m args below meth c H locs cells slots Q (F0 m pc ls (.int (nI K) :: .int (nI N) :: rest)) := by
  intro T hT Xs
  have hN0 : (nI N).toNatClampNeg = N := nI_clamp (by omega)
  have hK0 : (nI K).toNatClampNeg = K := nI_clamp (by omega)
  obtain ⟨vm₁, cB, comp, -, fA, fC, -, -, X', step⟩ := Xs.multianewarray2F hx hown hclink hover harr (g := F0 m pc ls (.int (nI K) :: .int (nI N) :: rest)) rfl (by rw [hb]; exact hdg) rfl (nI_pos (by omega)) (nI_pos (by omega)) (by rw [hN0]; omega) (by rw [hK0]; show K * 4 ≤ _; omega) (by rw [hK0]; omega) rfl rfl (by rw [hN0]; exact hcells) (by rw [hN0, hK0]; exact hslots)
  rw [hN0, hK0] at X' step
  have ec : some cy = some comp := hcy.symm.trans fC
  cases ec
  have ec : some cA = some cB := hcA.symm.trans fA
  cases ec
  generalize hF : Jvm.Free.Multi.fill (T.setVm vm₁) cA cy N K (defaultValue .int) N = F at X' step
  have hTh : (T.setVm vm₁).heap = H := hT
  obtain ⟨f1, f2, -, -⟩ := Jvm.Free.Multi.fill_facts (T.setVm vm₁) cA cy N K (defaultValue .int) N
  rw [hF, hTh] at f1 f2
  have hold : ∀ x : Nat, x < H.size → F.heap[x]? = H[x]? := fun x hx => by
    have := Jvm.Free.Multi.fill_old (T.setVm vm₁) cA cy N K (defaultValue .int) (a := x) (by rw [hTh]; exact hx) N
    rw [hF, hTh] at this
    exact this
  have hrow : ∀ j : Nat, j < N → F.heap[H.size + 1 + j]? = some (vp_cell cy (K, .inl (fun _ => 0))) := fun j hj => by
    have := Jvm.Free.Multi.fill_inner (T.setVm vm₁) cA cy N K (defaultValue .int) N j hj
    rw [hF, hTh] at this
    rw [this, vp_cell_i]
    show some ({ cls := cy, slots := Array.replicate K (.int 0), vm := .none } : Cell) = _
    rw [arrV_new]
  rw [vr_outer cA N H.size N] at f2
  have hP1 : va_P D cls3 (bw (ca o) (k + (1 + N)) f) F.heap := bw_P fun j hj => by
    by_cases h : j < k
    · exact va_at_kept (bw_Pat hP h) (hold (o + j) (by omega))
    · by_cases h2 : j = k
      · subst h2
        rw [hf]
        show F.heap[o + j]? = some (vp_cell _ _)
        rw [vp_cell_q, ← hz, f2]
        refine congrArg some (congrArg (arrV cA N) (funext fun i => ?_))
        by_cases hi : i < N
        · simp only [if_pos hi]
          rw [show H.size + 1 + i = o + (j + 1 + i) by omega]
        · simp only [if_neg hi]
      · obtain ⟨i, rfl⟩ : ∃ i, j = k + 1 + i := ⟨j - (k + 1), by omega⟩
        rw [hrw i (by omega)]
        show F.heap[o + (k + 1 + i)]? = some (vp_cell _ _)
        rw [show o + (k + 1 + i) = H.size + 1 + i by omega]
        exact hrow i (by omega)
  obtain ⟨t, a1, b1⟩ := kk F.heap hP1 (by rw [f1]; omega) ⟨by rw [f1]; have := hS.1; omega, fun x h1 h2 => (hold x (Nat.lt_of_lt_of_le h1 hS.1)).trans (hS.2.1 x h1 h2), hS.2.2⟩ F rfl X'
  refine ⟨t, step t ?_, b1⟩
  have e : T.heap.size = o + k := by rw [hT]; exact hz
  rw [e]
  exact a1
theorem cn_putF (hx : p.tables.exec = Jvm.exec) (hb : c.code = cc) {own C : String} {T : u_T} {N ci index : Nat} (hts : ∀ w ∈ ws_all, w.before args s = true) (hin : ∀ w ∈ u_ws C T N, w ∈ ws_all) (ty0 : Nat → FieldType) (hty : ∀ k, k < N → parseFieldDescriptor (T k).2.2.1 = some (ty0 k)) (hnm : ∀ a, a < N → ∀ b, b < N → a ≠ b → (T a).2.1 ≠ (T b).2.1) (hown : s.vm.findClass own = some m.cls) (hE : bE D tys s) {o n : Nat} {f : Nat → va_E} (hP : va_P D cls3 (bw (ca o) n f) H) (hz : H.size = o + n) (hS : va_S (gA o) s.heap H locs) (q : Nat) (hq : q < n) {a : Nat} (ha : a = o + q) {fs : List Value} (hf : f q = .inr (ci, fs)) (hc : cls3[ci]? = some (C, T, N)) (k : Nat) (hk : k < N) (hlk : Cond.fieldLink own index C (T k).2.1 (T k).2.2.1 ∈ ws_all) (hT : (T k).1 = C) (hfin : (T k).2.2.2 = true) (hin2 : meth.name = "<init>") (hdecl : (T k).1 = own) {ty : FieldType} {v : Value} (hd : parseFieldDescriptor (T k).2.2.1 = some ty) (hn : narrow ty v = v) (hfit : fits ty v = true) (hl : k < fs.length) {f' : Nat → va_E} (hf' : va_up f q (.inr (ci, fs.set k v)) = f') (hdg : decode cc pc = .ok (.putfield index, 3))
    (kk : ∀ (H1 : Heap) (locs1 : List Loc), va_P D cls3 (bw (ca o) n f') H1 → H1.size = o + n → va_S (gA o) s.heap H1 locs1 → W p l e R s m args below meth c H1 locs1 cells slots Q (F0 m (pc + 3) ls rest)) : W p l e R s m args below meth c H locs cells slots Q (F0 m pc ls (v :: .ref a :: rest)) := by
  subst ha
  have hK := hE.1
  have hap := va_apart (own := own) hts hin ty0 hty hnm hK hc
  have hD : va_D (gA o) (bw (ca o) n f) := bw_D (ca_I o n) (fun k _ => Nat.le_add_right o k)
  have he : (bw (ca o) n f)[q]? = some (o + q, .inr (ci, fs)) := bw_at hq hf
  obtain ⟨r, h1, cell, q1, q2, q3, q4⟩ := hP q _ he
  have hr : r = (C, T, N) := Option.some.inj (h1.symm.trans hc)
  subst hr
  obtain ⟨hS1, hfc, kC, hkC, hkind⟩ := hK.1 ci _ hc
  obtain ⟨cf, kf, fi, f9, hi, hsl⟩ := hS1 k hk
  have hlay := hts _ (hin _ (u_in_lay hk))
  unfold u_lay at hlay
  rw [if_pos hfin] at hlay
  have hst := (u_facts hfc hkC (u_lays hts hin hk) hi).1
  have hcf : m.cls = cf := by
    obtain ⟨_, _, c', _, _, _, -, -, hf', -, -, -, hown2, -⟩ := Cond.laysFinal_spec hlay
    have e1 : c' = cf := by have := hi.symm.trans hf'; simp at this; exact this.1.symm
    rw [hdecl] at hown2
    rw [← e1]; exact Option.some.inj (hown.symm.trans hown2)
  have h6 := u_fits hfc hkC hkind (Or.inr hlay) hi hd hn hfit
  refine W.putFinK hx hb hown (hts _ hlk) (by rw [hT] at hi; exact hi) hst hcf hin2 (by rw [q2]; exact h6) q1 q3 (by rw [hsl]; exact k2_hasslot (q4 k hk)) rfl rfl hdg fun H' e1 e2 e3 => ?_
  rw [hsl] at e1 ⊢
  have hP1 := hP.set hD he (e := .inr (ci, fs.set k v)) (H1 := H') ⟨_, hc, t_OB.to (V := updV (vp_V fs) k v) ⟨_, e1, q2, q3, t_set q4 hap hk v⟩ (fun j _ => vp_updV_set hl v j)⟩ e3
  have e4 : (bw (ca o) n f).set q (o + q, .inr (ci, fs.set k v)) = bw (ca o) n f' := by rw [← hf']; exact bw_set hq
  rw [e4] at hP1
  exact kk H' _ hP1 (by rw [e2]; exact hz) (hS.put e2 e3 (hD.2 q _ he))
theorem cn_put (hx : p.tables.exec = Jvm.exec) (hb : c.code = cc) {own C : String} {T : u_T} {N ci index : Nat} (hts : ∀ w ∈ ws_all, w.before args s = true) (hin : ∀ w ∈ u_ws C T N, w ∈ ws_all) (ty0 : Nat → FieldType) (hty : ∀ k, k < N → parseFieldDescriptor (T k).2.2.1 = some (ty0 k)) (hnm : ∀ a, a < N → ∀ b, b < N → a ≠ b → (T a).2.1 ≠ (T b).2.1) (hown : s.vm.findClass own = some m.cls) (hE : bE D tys s) {o n : Nat} {f : Nat → va_E} (hP : va_P D cls3 (bw (ca o) n f) H) (hz : H.size = o + n) (hS : va_S (gA o) s.heap H locs) (q : Nat) (hq : q < n) {a : Nat} (ha : a = o + q) {fs : List Value} (hf : f q = .inr (ci, fs)) (hc : cls3[ci]? = some (C, T, N)) (k : Nat) (hk : k < N) (hlk : Cond.fieldLink own index C (T k).2.1 (T k).2.2.1 ∈ ws_all) (hT : (T k).1 = C) (hfin : (T k).2.2.2 = false) {ty : FieldType} {v : Value} (hd : parseFieldDescriptor (T k).2.2.1 = some ty) (hn : narrow ty v = v) (hfit : fits ty v = true) (hl : k < fs.length) {f' : Nat → va_E} (hf' : va_up f q (.inr (ci, fs.set k v)) = f') (hdg : decode cc pc = .ok (.putfield index, 3))
    (kk : ∀ (H1 : Heap) (locs1 : List Loc), va_P D cls3 (bw (ca o) n f') H1 → H1.size = o + n → va_S (gA o) s.heap H1 locs1 → W p l e R s m args below meth c H1 locs1 cells slots Q (F0 m (pc + 3) ls rest)) : W p l e R s m args below meth c H locs cells slots Q (F0 m pc ls (v :: .ref a :: rest)) := by
  subst ha
  have hK := hE.1
  have hap := va_apart (own := own) hts hin ty0 hty hnm hK hc
  have hD : va_D (gA o) (bw (ca o) n f) := bw_D (ca_I o n) (fun k _ => Nat.le_add_right o k)
  have he : (bw (ca o) n f)[q]? = some (o + q, .inr (ci, fs)) := bw_at hq hf
  obtain ⟨r, h1, cell, q1, q2, q3, q4⟩ := hP q _ he
  have hr : r = (C, T, N) := Option.some.inj (h1.symm.trans hc)
  subst hr
  obtain ⟨hS1, hfc, kC, hkC, hkind⟩ := hK.1 ci _ hc
  obtain ⟨cf, kf, fi, f9, hi, hsl⟩ := hS1 k hk
  have hlay := hts _ (hin _ (u_in_lay hk))
  unfold u_lay at hlay
  rw [if_neg (by rw [hfin]; decide)] at hlay
  have hst := (u_facts hfc hkC (u_lays hts hin hk) hi).1
  have h6 := u_store hfc hkC hkind hlay hi hd hn hfit
  refine W.putK hx hb (f := f9) ⟨hown, hts _ hlk, ⟨_, _, _, by rw [hT] at hi; exact hi⟩, hst⟩ (by rw [q2]; exact h6) q1 q3 (by rw [hsl]; exact k2_hasslot (q4 k hk)) rfl rfl hdg fun H' e1 e2 e3 => ?_
  rw [hsl] at e1 ⊢
  have hP1 := hP.set hD he (e := .inr (ci, fs.set k v)) (H1 := H') ⟨_, hc, t_OB.to (V := updV (vp_V fs) k v) ⟨_, e1, q2, q3, t_set q4 hap hk v⟩ (fun j _ => vp_updV_set hl v j)⟩ e3
  have e4 : (bw (ca o) n f).set q (o + q, .inr (ci, fs.set k v)) = bw (ca o) n f' := by rw [← hf']; exact bw_set hq
  rw [e4] at hP1
  exact kk H' _ hP1 (by rw [e2]; exact hz) (hS.put e2 e3 (hD.2 q _ he))
theorem cn_newc {c0 : Code} (hx : p.tables.exec = Jvm.exec) (hb : c0.code = cc) {own C : String} {T : u_T} {N ci index : Nat} (hts : ∀ w ∈ ws_all, w.before args s = true) (hin : ∀ w ∈ u_ws C T N, w ∈ ws_all) (ty : Nat → FieldType) (hty : ∀ k, k < N → parseFieldDescriptor (T k).2.2.1 = some (ty k)) (hown : s.vm.findClass own = some m.cls) (hcl : (Cond.classLink own index C).before args s = true) (hinst : (Cond.instantiable C N).before args s = true) (hini : (Cond.initialized C).before args s = true) (hE : bE D tys s) {o k : Nat} {f : Nat → va_E} (hP : va_P D cls3 (bw (ca o) k f) H) (hz : H.size = o + k) (hS : va_S A s.heap H locs) (hc : cls3[ci]? = some (C, T, N)) {fs : List Value} (hfs : ∀ j, j < N → defaultValue (ty j) = vp_V fs j) (hf : f k = .inr (ci, fs)) (hcells : cells + 1 ≤ R.cells) (hslots : slots + N ≤ R.slots) (hdg : decode cc pc = .ok (.new index, 3))
    (kk : ∀ H1 : Heap, va_P D cls3 (bw (ca o) (k + 1) f) H1 → H1.size = o + (k + 1) → va_S A s.heap H1 locs → (∀ q, q < H.size → H1[q]? = H[q]?) → W p l e R s m args below meth c0 H1 locs (cells + 1) (slots + N) Q (F0 m (pc + 3) ls (.ref (o + k) :: rest))) : W p l e R s m args below meth c0 H locs cells slots Q (F0 m pc ls rest) := by
  have hKn := hE.1.1 ci _ hc
  refine W.newcK hx hb hown hcl hinst hini rfl hdg hcells hslots hKn.2.1 hz fun H1 kC hkC e1 z1 o1 => ?_
  refine kk H1 (bw_P fun j hj => ?_) z1 ⟨Nat.le_trans hS.1 (by omega), fun x h1 h2 => (o1 x (by have := hS.1; omega)).trans (hS.2.1 x h1 h2), hS.2.2⟩ (fun q hq => o1 q (by omega))
  by_cases h : j < k
  · exact va_at_kept (bw_Pat hP h) (o1 (o + j) (by omega))
  · have hj : j = k := by omega
    subst hj
    rw [hf]
    exact ⟨_, hc, (u_born ty hts hin hKn hkC e1 hty).to hfs⟩
end CN
