/-! A BLOCK OF CELLS: place k < n of a block lies at the address ad k and holds f k. An object's whole world is one block; every method of it gets the block and gives it back. -/
def bw (ad : Nat → Nat) (n : Nat) (f : Nat → va_E) : va_W := (List.range n).map (fun k => (ad k, f k))
theorem bw_at {ad : Nat → Nat} {n : Nat} {f : Nat → va_E} {k : Nat} {e : va_E} (h : k < n) (he : f k = e) : (bw ad n f)[k]? = some (ad k, e) := by
  subst he
  simp [bw, h]
theorem bw_inv {ad : Nat → Nat} {n : Nat} {f : Nat → va_E} {k : Nat} {q : Nat × va_E} (h : (bw ad n f)[k]? = some q) : k < n ∧ q = (ad k, f k) := by
  have hk : k < n := by
    have := (List.getElem?_eq_some_iff.mp h).1
    simpa [bw] using this
  rw [bw_at hk rfl] at h
  exact ⟨hk, (Option.some.inj h).symm⟩
theorem bw_set {ad : Nat → Nat} {n : Nat} {f : Nat → va_E} {k : Nat} {e : va_E} (h : k < n) : (bw ad n f).set k (ad k, e) = bw ad n (va_up f k e) := by
  apply List.ext_getElem?
  intro j
  by_cases hj : j = k
  · subst hj
    rw [List.getElem?_set_self (by simpa [bw] using h), bw_at h (va_up_self f j e)]
  · rw [List.getElem?_set_ne (Ne.symm hj)]
    by_cases hn : j < n
    · rw [bw_at hn rfl, bw_at hn rfl, va_up_ne f e hj]
    · rw [List.getElem?_eq_none (by simp [bw]; omega), List.getElem?_eq_none (by simp [bw]; omega)]
def bw_I (ad : Nat → Nat) (n : Nat) : Prop := ∀ i j : Nat, i < n → j < n → ad i = ad j → i = j
def bw_A (ad : Nat → Nat) (n sz : Nat) : Nat → Prop := fun q => (∃ k : Nat, k < n ∧ q = ad k) ∨ sz ≤ q
theorem bw_D {A : Nat → Prop} {ad : Nat → Nat} {n : Nat} {f : Nat → va_E} (hI : bw_I ad n) (hA : ∀ k, k < n → A (ad k)) : va_D A (bw ad n f) := by
  refine ⟨fun i j p q hp hq e => ?_, fun k q hq => ?_⟩
  · obtain ⟨h1, rfl⟩ := bw_inv hp
    obtain ⟨h2, rfl⟩ := bw_inv hq
    exact hI i j h1 h2 e
  · obtain ⟨h1, rfl⟩ := bw_inv hq
    exact hA k h1
theorem bw_D0 {ad : Nat → Nat} {n sz : Nat} {f : Nat → va_E} (hI : bw_I ad n) : va_D (bw_A ad n sz) (bw ad n f) := bw_D hI (fun k hk => Or.inl ⟨k, hk, rfl⟩)
theorem bw_up {ρ : Type} (cell : Nat → ρ → va_E) (M : Nat → ρ) (q : Nat) (r : ρ) : va_up (fun j => cell j (M j)) q (cell q r) = fun j => cell j (va_up M q r j) := by
  funext j
  by_cases h : j = q
  · subst h; simp [va_up]
  · simp [va_up, h]
theorem bw_lt {D : va_G} {cl : List vw_C} {ad : Nat → Nat} {n : Nat} {f : Nat → va_E} {H : Heap} (hP : va_P D cl (bw ad n f) H) {k : Nat} (hk : k < n) : ad k < H.size := (hP k _ (bw_at hk rfl)).lt
/-- the words on private members of nest mates, which are no good words -/
def nestW : List Cond := [.methodLinkNest RS 55 yT_init RS, .methodLinkNest RS 118 yT_turnOf RS, .methodLinkNest RT 35 yS_sine RS, .methodLinkNest RT 31 yS_multiply RS]
def nestOk (U : State) : Prop := ∀ w ∈ nestW, va_Nw w U
theorem nestOk.warm {s U : State} (hW : s.WarmedH U.vm) (h : nestOk s) : nestOk U := by
  intro w hw
  have h1 := h w hw
  simp only [nestW, List.mem_cons, List.not_mem_nil, or_false] at hw
  rcases hw with rfl | rfl | rfl | rfl <;> exact va_Nw.warmM hW h1
theorem nestOk.same {s U : State} (h : s.vm = U.vm) (hn : nestOk s) : nestOk U := by
  intro w hw
  have h1 := hn w hw
  simp only [nestW, List.mem_cons, List.not_mem_nil, or_false] at hw
  rcases hw with rfl | rfl | rfl | rfl <;> exact va_Nw.same rfl h h1
/-- the tables of a method's start: classes, array classes, nest words -/
def bE (D : va_G) (tys : List (ClassId × FieldType)) (U : State) : Prop := va_K D cls3 tys U ∧ nestOk U
theorem bE.warm {D : va_G} {tys : List (ClassId × FieldType)} {s U : State} (hW : s.WarmedH U.vm) (h : bE D tys s) : bE D tys U := ⟨va_K.moved hW.alike h.1, h.2.warm hW⟩
theorem bE.calling {D : va_G} {tys : List (ClassId × FieldType)} {U : State} {g : JFrame} {mk : MethodId} {a : Array Value} (h : bE D tys U) : bE D tys (U.calling g mk a) := ⟨va_K.moved (u := U) (U := U.calling g mk a) (Vm.Alike.refl U.vm) h.1, nestOk.same (s := U) rfl h.2⟩
/-- a method's world: the heap's size, the block, the tables -/
def bPre (D : va_G) (tys : List (ClassId × FieldType)) (ad : Nat → Nat) (n : Nat) (f : Nat → va_E) (sz : Nat) (U : State) : Prop := U.heap.size = sz ∧ va_P D cls3 (bw ad n f) U.heap ∧ bE D tys U
theorem bPre.calling {D : va_G} {tys : List (ClassId × FieldType)} {ad : Nat → Nat} {n : Nat} {f : Nat → va_E} {sz : Nat} {U : State} {g : JFrame} {mk : MethodId} {a : Array Value} (h : bPre D tys ad n f sz U) : bPre D tys ad n f sz (U.calling g mk a) := ⟨h.1, h.2.1, h.2.2.calling⟩
theorem bBlind {Pw : State → Prop} {av : List Value} (h : ∀ (U : State) (g : JFrame) (mk : MethodId) (a : Array Value), Pw U → Pw (U.calling g mk a)) : FrameBlind (va_Pc av Pw) := fun a U g mk q => ⟨q.1, h U g mk a q.2⟩
theorem goodAll {w : Cond} (h : w ∈ ws_all) : GoodIn ws_all (w :: ws_all) := fun w' h' => by
  rcases List.mem_cons.mp h' with rfl | h'
  · exact ⟨h, good_of_word (ws_good h)⟩
  · exact ⟨h', good_of_word (ws_good h')⟩
section BW
variable {p : Program} {l : Launch} {e : Env} {R : Room} {s : State} {m : MethodId} {args : Array Value} {below : List Frame} {meth : Method} {c : Code} {H : Heap} {locs : List Loc} {cells slots : Nat} {Q : State → Prop}
variable {cc : ByteArray} {pc : Nat} {ls : Array Slot} {rest : List Value} {D : va_G} {tys : List (ClassId × FieldType)} {ad : Nat → Nat} {n : Nat}
theorem bw_get {f : Nat → va_E} (hx : p.tables.exec = Jvm.exec) (hb : c.code = cc) {own C : String} {T : u_T} {N ci index : Nat} (hts : ∀ w ∈ ws_all, w.before args s = true) (hin : ∀ w ∈ u_ws C T N, w ∈ ws_all) (hown : s.vm.findClass own = some m.cls) (hE : bE D tys s) (hP : va_P D cls3 (bw ad n f) H) (q : Nat) (hq : q < n) {fs : List Value} (hf : f q = .inr (ci, fs)) (hc : cls3[ci]? = some (C, T, N)) (k : Nat) (hk : k < N) (hl : Cond.fieldLink own index C (T k).2.1 (T k).2.2.1 ∈ ws_all) (hT : (T k).1 = C) {v : Value} (hv : fs[k]? = some v) (hdg : decode cc pc = .ok (.getfield index, 3))
    (kk : W p l e R s m args below meth c H locs cells slots Q (F0 m (pc + 3) ls (v :: rest))) : W p l e R s m args below meth c H locs cells slots Q (F0 m pc ls (.ref (ad q) :: rest)) :=
  va_get hx hb hts hin hown hE.1 hP q (bw_at hq hf) hc k hk (hts _ hl) (by rw [hT]; exact fun _ h => h) hv hdg kk
theorem bw_put {ρ : Type} {cell : Nat → ρ → va_E} {M : Nat → ρ} (hx : p.tables.exec = Jvm.exec) (hb : c.code = cc) {own C : String} {T : u_T} {N ci index : Nat} (hts : ∀ w ∈ ws_all, w.before args s = true) (hin : ∀ w ∈ u_ws C T N, w ∈ ws_all) (ty0 : Nat → FieldType) (hty : ∀ k, k < N → parseFieldDescriptor (T k).2.2.1 = some (ty0 k)) (hnm : ∀ a, a < N → ∀ b, b < N → a ≠ b → (T a).2.1 ≠ (T b).2.1) (hown : s.vm.findClass own = some m.cls) (hE : bE D tys s) (hI : bw_I ad n) (hP : va_P D cls3 (bw ad n (fun j => cell j (M j))) H) (hS : va_S (bw_A ad n s.heap.size) s.heap H locs) (q : Nat) (hq : q < n) {fs : List Value} (hf : cell q (M q) = .inr (ci, fs)) (hc : cls3[ci]? = some (C, T, N)) (k : Nat) (hk : k < N) (hl : Cond.fieldLink own index C (T k).2.1 (T k).2.2.1 ∈ ws_all) (hT : (T k).1 = C) (hfin : (T k).2.2.2 = false) {ty : FieldType} {v : Value} (r : ρ) (hf' : cell q r = .inr (ci, fs.set k v)) (hd : parseFieldDescriptor (T k).2.2.1 = some ty) (hn : narrow ty v = v) (hfit : fits ty v = true) (hlen : k < fs.length)
    (hdg : decode cc pc = .ok (.putfield index, 3)) (kk : ∀ (M1 : Nat → ρ) (H1 : Heap) (locs1 : List Loc), M1 = va_up M q r → va_P D cls3 (bw ad n (fun j => cell j (M1 j))) H1 → va_S (bw_A ad n s.heap.size) s.heap H1 locs1 → W p l e R s m args below meth c H1 locs1 cells slots Q (F0 m (pc + 3) ls rest)) : W p l e R s m args below meth c H locs cells slots Q (F0 m pc ls (v :: .ref (ad q) :: rest)) := by
  refine va_put hx hb hts hin ty0 hty hnm hown hE.1 hP (bw_D0 hI) hS q (bw_at hq hf) hc k hk (hts _ hl) (by rw [hT]; exact fun _ h => h) hfin hd hn hfit hlen hdg (fun H1 locs1 h1 _ h3 => ?_)
  rw [bw_set hq, ← hf', bw_up] at h1
  exact kk _ H1 locs1 rfl h1 h3
theorem bw_iald {f : Nat → va_E} (hx : p.tables.exec = Jvm.exec) (hb : c.code = cc) (hE : bE D tys s) (hP : va_P D cls3 (bw ad n f) H) (q t0 : Nat) (hq : q < n) {cA : ClassId} {L : Nat} {g : Nat → Int32} (hf : f q = .inl (cA, L, .inl g)) (ht : tys[t0]? = some (cA, .int)) {i : Int32} (hin : vp_in i L) (hdg : decode cc pc = .ok (.iaload, 1))
    (kk : W p l e R s m args below meth c H locs cells slots Q (F0 m (pc + 1) ls (.int (g i.toNatClampNeg) :: rest))) : W p l e R s m args below meth c H locs cells slots Q (F0 m pc ls (.int i :: .ref (ad q) :: rest)) :=
  va_iald hx hb hE.1 hP q t0 (bw_at hq hf) ht hin hdg kk
theorem bw_zald {f : Nat → va_E} (hx : p.tables.exec = Jvm.exec) (hb : c.code = cc) (hE : bE D tys s) (hP : va_P D cls3 (bw ad n f) H) (q t0 : Nat) (hq : q < n) {cA : ClassId} {L : Nat} {g : Nat → Int32} (hf : f q = .inl (cA, L, .inl g)) (ht : tys[t0]? = some (cA, .boolean)) {i : Int32} (hin : vp_in i L) (hdg : decode cc pc = .ok (.baload, 1))
    (kk : W p l e R s m args below meth c H locs cells slots Q (F0 m (pc + 1) ls (.int (g i.toNatClampNeg) :: rest))) : W p l e R s m args below meth c H locs cells slots Q (F0 m pc ls (.int i :: .ref (ad q) :: rest)) :=
  va_zald hx hb hE.1 hP q t0 (bw_at hq hf) ht hin hdg kk
theorem bw_lald {f : Nat → va_E} (hx : p.tables.exec = Jvm.exec) (hb : c.code = cc) (hE : bE D tys s) (hP : va_P D cls3 (bw ad n f) H) (q t0 : Nat) (hq : q < n) {cA : ClassId} {L : Nat} {g : Nat → Int64} (hf : f q = .inl (cA, L, .inr (.inl g))) (ht : tys[t0]? = some (cA, .long)) {i : Int32} (hin : vp_in i L) (hdg : decode cc pc = .ok (.laload, 1))
    (kk : W p l e R s m args below meth c H locs cells slots Q (F0 m (pc + 1) ls (.long (g i.toNatClampNeg) :: rest))) : W p l e R s m args below meth c H locs cells slots Q (F0 m pc ls (.int i :: .ref (ad q) :: rest)) :=
  va_lald hx hb hE.1 hP q t0 (bw_at hq hf) ht hin hdg kk
/-- a row of an array of arrays -/
theorem bw_aald {f : Nat → va_E} (hx : p.tables.exec = Jvm.exec) (hb : c.code = cc) (hE : bE D tys s) (hP : va_P D cls3 (bw ad n f) H) (q t0 : Nat) (hq : q < n) {cA : ClassId} {L : Nat} {g : Nat → Option Nat} (hf : f q = .inl (cA, L, .inr (.inr (.inr (.inr g))))) (ht : tys[t0]? = some (cA, .array .int)) {i : Int32} (hin : vp_in i L) {a : Nat} (hg : g i.toNatClampNeg = some a) (hdg : decode cc pc = .ok (.aaload, 1))
    (kk : W p l e R s m args below meth c H locs cells slots Q (F0 m (pc + 1) ls (.ref a :: rest))) : W p l e R s m args below meth c H locs cells slots Q (F0 m pc ls (.int i :: .ref (ad q) :: rest)) := by
  have hlt : i.toNatClampNeg < L := Nat.not_le.mp fun q => hin (Or.inr q)
  refine W.aald (v := va_rf (g i.toNatClampNeg)) (ty := .array .int) hx hb (hP q _ (bw_at hq hf)) ((hE.1.2 t0 _ ht).1 L (fun j => va_rf (g j))) rfl (fun q => by cases q) (by show ¬ (i < 0 ∨ (arrV _ _ _).slots.size ≤ _); rw [arrV_size]; exact hin) (by show (arrV _ _ _).slots[_]? = _; rw [arrV_read _ _ hlt]) rfl rfl hdg ?_
  rw [hg]
  exact kk
theorem bw_iast {ρ : Type} {cell : Nat → ρ → va_E} {M : Nat → ρ} (hx : p.tables.exec = Jvm.exec) (hb : c.code = cc) (hE : bE D tys s) (hI : bw_I ad n) (hP : va_P D cls3 (bw ad n (fun j => cell j (M j))) H) (hS : va_S (bw_A ad n s.heap.size) s.heap H locs) (q t0 : Nat) (hq : q < n) {cA : ClassId} {L : Nat} {g : Nat → Int32} (hf : cell q (M q) = .inl (cA, L, .inl g)) (ht : tys[t0]? = some (cA, .int)) {i x : Int32} (hin : vp_in i L) (r : ρ) (hf' : cell q r = .inl (cA, L, .inl (upd g i.toNatClampNeg x))) (hdg : decode cc pc = .ok (.iastore, 1))
    (kk : ∀ (M1 : Nat → ρ) (H1 : Heap) (locs1 : List Loc), M1 = va_up M q r → va_P D cls3 (bw ad n (fun j => cell j (M1 j))) H1 → va_S (bw_A ad n s.heap.size) s.heap H1 locs1 → W p l e R s m args below meth c H1 locs1 cells slots Q (F0 m (pc + 1) ls rest)) : W p l e R s m args below meth c H locs cells slots Q (F0 m pc ls (.int x :: .int i :: .ref (ad q) :: rest)) := by
  refine va_iast hx hb hE.1 hP (bw_D0 hI) hS q t0 (bw_at hq hf) ht hin hdg (fun H1 locs1 h1 _ h3 => ?_)
  rw [bw_set hq, ← hf', bw_up] at h1
  exact kk _ H1 locs1 rfl h1 h3
theorem bw_zast {ρ : Type} {cell : Nat → ρ → va_E} {M : Nat → ρ} (hx : p.tables.exec = Jvm.exec) (hb : c.code = cc) (hE : bE D tys s) (hI : bw_I ad n) (hP : va_P D cls3 (bw ad n (fun j => cell j (M j))) H) (hS : va_S (bw_A ad n s.heap.size) s.heap H locs) (q t0 : Nat) (hq : q < n) {cA : ClassId} {L : Nat} {g : Nat → Int32} (hf : cell q (M q) = .inl (cA, L, .inl g)) (ht : tys[t0]? = some (cA, .boolean)) {i x : Int32} (hin : vp_in i L) (r : ρ) (hf' : cell q r = .inl (cA, L, .inl (upd g i.toNatClampNeg (vp_nar .boolean x)))) (hdg : decode cc pc = .ok (.bastore, 1))
    (kk : ∀ (M1 : Nat → ρ) (H1 : Heap) (locs1 : List Loc), M1 = va_up M q r → va_P D cls3 (bw ad n (fun j => cell j (M1 j))) H1 → va_S (bw_A ad n s.heap.size) s.heap H1 locs1 → W p l e R s m args below meth c H1 locs1 cells slots Q (F0 m (pc + 1) ls rest)) : W p l e R s m args below meth c H locs cells slots Q (F0 m pc ls (.int x :: .int i :: .ref (ad q) :: rest)) := by
  refine va_zast hx hb hE.1 hP (bw_D0 hI) hS q t0 (bw_at hq hf) ht hin hdg (fun H1 locs1 h1 _ h3 => ?_)
  rw [bw_set hq, ← hf', bw_up] at h1
  exact kk _ H1 locs1 rfl h1 h3
theorem bw_last {ρ : Type} {cell : Nat → ρ → va_E} {M : Nat → ρ} (hx : p.tables.exec = Jvm.exec) (hb : c.code = cc) (hE : bE D tys s) (hI : bw_I ad n) (hP : va_P D cls3 (bw ad n (fun j => cell j (M j))) H) (hS : va_S (bw_A ad n s.heap.size) s.heap H locs) (q t0 : Nat) (hq : q < n) {cA : ClassId} {L : Nat} {g : Nat → Int64} (hf : cell q (M q) = .inl (cA, L, .inr (.inl g))) (ht : tys[t0]? = some (cA, .long)) {i : Int32} {x : Int64} (hin : vp_in i L) (r : ρ) (hf' : cell q r = .inl (cA, L, .inr (.inl (vp_updL g i.toNatClampNeg x)))) (hdg : decode cc pc = .ok (.lastore, 1))
    (kk : ∀ (M1 : Nat → ρ) (H1 : Heap) (locs1 : List Loc), M1 = va_up M q r → va_P D cls3 (bw ad n (fun j => cell j (M1 j))) H1 → va_S (bw_A ad n s.heap.size) s.heap H1 locs1 → W p l e R s m args below meth c H1 locs1 cells slots Q (F0 m (pc + 1) ls rest)) : W p l e R s m args below meth c H locs cells slots Q (F0 m pc ls (.long x :: .int i :: .ref (ad q) :: rest)) := by
  refine va_last hx hb hE.1 hP (bw_D0 hI) hS q t0 (bw_at hq hf) ht hin hdg (fun H1 locs1 h1 _ h3 => ?_)
  rw [bw_set hq, ← hf', bw_up] at h1
  exact kk _ H1 locs1 rfl h1 h3
end BW
