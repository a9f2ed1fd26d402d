/-! THE REFERENCE holds the abstract state -/
def Ref (A : Ab) (R : Nat → mRow) : Prop := (R 0).1 1 = nI (aN A) ∧ (∀ n, n < aN A → (R 1).1 n = aP A n ∧ (R 2).1 n = aK A n ∧ (R 3).1 n = aH A n ∧ ∀ j, j < 9 → (R 4).1 (9 * n + j) = aU A n j) ∧ ∀ j, j < 9 → (R 4).1 (432 + j) = aE A j
theorem m_us {f : Nat → Int32} {g : Nat → Int64} {k : Nat} {x : Int32} : ((upd f k x, g) : mRow).1 k = x := pk_us
theorem m_un {f : Nat → Int32} {g : Nat → Int64} {k j : Nat} {x : Int32} (h : j ≠ k) : ((upd f k x, g) : mRow).1 j = f j := pk_un h
theorem Ref.keep {A : Ab} {R R1 : Nat → mRow} (h : Ref A R) (h1 : ∀ q, 0 < q → q < 5 → (R1 q).1 = (R q).1) (h0 : (R1 0).1 1 = (R 0).1 1) : Ref A R1 := by
  refine ⟨by rw [h0]; exact h.1, fun n hn => ?_, fun j hj => by rw [h1 4 (by decide) (by decide)]; exact h.2.2 j hj⟩
  rw [h1 1 (by decide) (by decide), h1 2 (by decide) (by decide), h1 3 (by decide) (by decide), h1 4 (by decide) (by decide)]
  exact h.2.1 n hn
/-- the reference's first act: thrown is x -/
theorem Ref.thr {A : Ab} {R R1 : Nat → mRow} {x : Int32} (h : Ref A R) (e : R1 = va_up R 0 (upd (R 0).1 0 x, (R 0).2)) : Ref A R1 :=
  h.keep (fun q h1 _ => by rw [e, va_up_ne _ _ (by omega)]) (by rw [e, va_up_self]; exact m_un (by decide))
theorem Ref.clr {A : Ab} {R R1 : Nat → mRow} (h : Ref A R) (e : R1 = va_up R 0 (upd (R 0).1 1 (nI 0), (R 0).2)) : Ref (clrA A) R1 := by
  refine ⟨by rw [e, va_up_self]; exact m_us, fun n hn => absurd hn (Nat.not_lt_zero _), fun j hj => ?_⟩
  rw [e, va_up_ne _ _ (by decide)]
  exact h.2.2 j hj
def lay3 (r : mRow) (a : Nat) (x y z : Int32) : mRow := (upd (upd (upd r.1 a x) (a + 1) y) (a + 2) z, r.2)
theorem lay3_in {r : mRow} {a w : Nat} {x y z : Int32} {u : Nat → Int32} (hw : w < 3) (hu : ∀ j, j < 9 → r.1 (a + j) = u j) {j : Nat} (hj : j < 9) : (lay3 r (a + 3 * w) x y z).1 (a + j) = jput u w x y z j := by
  unfold lay3 jput upd
  by_cases c1 : j = 3 * w + 2
  · subst c1; simp [show a + (3 * w + 2) = a + 3 * w + 2 by omega]
  · by_cases c2 : j = 3 * w + 1
    · subst c2; simp [show a + (3 * w + 1) = a + 3 * w + 1 by omega]
    · by_cases c3 : j = 3 * w
      · subst c3; simp
      · simp [c1, c2, c3, show ¬ a + j = a + 3 * w + 2 by omega, show ¬ a + j = a + 3 * w + 1 by omega, show ¬ a + j = a + 3 * w by omega, hu j hj]
theorem lay3_out {r : mRow} {a t : Nat} {x y z : Int32} (h : t < a ∨ a + 3 ≤ t) : (lay3 r a x y z).1 t = r.1 t := by
  unfold lay3 upd
  simp [show ¬ t = a + 2 by omega, show ¬ t = a + 1 by omega, show ¬ t = a by omega]
theorem Ref.set {A : Ab} {R R1 : Nat → mRow} {j w : Nat} {x y z : Int32} (h : Ref A R) (hA : aOk A) (hj : j < aN A) (hw : w < 3) (e : R1 = va_up R 4 (lay3 (R 4) (9 * j + 3 * w) x y z)) : Ref (setA A j w x y z) R1 := by
  have hN := hA.1
  have f : ∀ q, q ≠ 4 → R1 q = R q := fun q hq => by rw [e, va_up_ne _ _ hq]
  have f4 : R1 4 = lay3 (R 4) (9 * j + 3 * w) x y z := by rw [e, va_up_self]
  refine ⟨by rw [f 0 (by decide)]; exact h.1, fun n hn => ?_, fun i hi => by rw [f4, lay3_out (by omega)]; exact h.2.2 i hi⟩
  have hn' : n < aN A := hn
  obtain ⟨b1, b2, b3, b4⟩ := h.2.1 n hn'
  refine ⟨by rw [f 1 (by decide)]; exact b1, by rw [f 2 (by decide)]; exact b2, by rw [f 3 (by decide)]; exact b3, fun i hi => ?_⟩
  show (R1 4).1 (9 * n + i) = va_up (aU A) j _ n i
  rw [f4]
  by_cases c : n = j
  · subst c
    rw [va_up_self]
    exact lay3_in hw b4 hi
  · rw [va_up_ne _ _ c, lay3_out (by omega)]
    exact b4 i hi
theorem Ref.cam {A : Ab} {R R1 : Nat → mRow} {w : Nat} {x y z : Int32} (h : Ref A R) (hA : aOk A) (hw : w < 3) (e : R1 = va_up R 4 (lay3 (R 4) (432 + 3 * w) x y z)) : Ref (camA A w x y z) R1 := by
  have hN := hA.1
  have f : ∀ q, q ≠ 4 → R1 q = R q := fun q hq => by rw [e, va_up_ne _ _ hq]
  have f4 : R1 4 = lay3 (R 4) (432 + 3 * w) x y z := by rw [e, va_up_self]
  refine ⟨by rw [f 0 (by decide)]; exact h.1, fun n hn => ?_, fun i hi => by rw [f4]; exact lay3_in hw h.2.2 hi⟩
  have hn' : n < aN A := hn
  obtain ⟨b1, b2, b3, b4⟩ := h.2.1 n hn'
  exact ⟨by rw [f 1 (by decide)]; exact b1, by rw [f 2 (by decide)]; exact b2, by rw [f 3 (by decide)]; exact b3, fun i hi => by rw [f4, lay3_out (by omega)]; exact b4 i hi⟩
theorem Ref.hang {A : Ab} {R R1 : Nat → mRow} {j : Nat} {p : Int32} (h : Ref A R) (e : R1 = va_up R 1 (upd (R 1).1 j p, (R 1).2)) : Ref (hangA A j p) R1 := by
  have f : ∀ q, q ≠ 1 → R1 q = R q := fun q hq => by rw [e, va_up_ne _ _ hq]
  refine ⟨by rw [f 0 (by decide)]; exact h.1, fun n hn => ?_, fun i hi => by rw [f 4 (by decide)]; exact h.2.2 i hi⟩
  obtain ⟨b1, b2, b3, b4⟩ := h.2.1 n hn
  refine ⟨?_, by rw [f 2 (by decide)]; exact b2, by rw [f 3 (by decide)]; exact b3, fun i hi => by rw [f 4 (by decide)]; exact b4 i hi⟩
  show (R1 1).1 n = va_up (aP A) j p n
  rw [e, va_up_self]
  show upd (R 1).1 j p n = _
  by_cases c : n = j
  · subst c; rw [va_up_self, pk_us]
  · rw [va_up_ne _ _ c, pk_un c]; exact b1
theorem Ref.hide {A : Ab} {R R1 : Nat → mRow} {j : Nat} {b : Int32} (h : Ref A R) (e : R1 = va_up R 3 (upd (R 3).1 j (vp_nar .boolean b), (R 3).2)) : Ref (hideA A j b) R1 := by
  have f : ∀ q, q ≠ 3 → R1 q = R q := fun q hq => by rw [e, va_up_ne _ _ hq]
  refine ⟨by rw [f 0 (by decide)]; exact h.1, fun n hn => ?_, fun i hi => by rw [f 4 (by decide)]; exact h.2.2 i hi⟩
  obtain ⟨b1, b2, b3, b4⟩ := h.2.1 n hn
  refine ⟨by rw [f 1 (by decide)]; exact b1, by rw [f 2 (by decide)]; exact b2, ?_, fun i hi => by rw [f 4 (by decide)]; exact b4 i hi⟩
  show (R1 3).1 n = va_up (aH A) j _ n
  rw [e, va_up_self]
  show upd (R 3).1 j _ n = _
  by_cases c : n = j
  · subst c; rw [va_up_self, pk_us]
  · rw [va_up_ne _ _ c, pk_un c]; exact b3
/-- the nine numbers of a new node, i of them laid -/
def nInv (R R1 : Nat → mRow) (N i : Nat) : Prop := (∀ q, q ≠ 4 → R1 q = R q) ∧ (∀ t, (t < 9 * N ∨ 9 * N + i ≤ t) → (R1 4).1 t = (R 4).1 t) ∧ ∀ j, j < i → (R1 4).1 (9 * N + j) = if j < 6 then 0 else 65536
theorem nInv.step {R R1 R2 : Nat → mRow} {N i : Nat} {x : Int32} (h : nInv R R1 N i) (e : R2 = va_up R1 4 (upd (R1 4).1 (9 * N + i) x, (R1 4).2)) (hx : x = if i < 6 then 0 else 65536) : nInv R R2 N (i + 1) := by
  subst e
  refine ⟨fun q hq => by rw [va_up_ne _ _ hq]; exact h.1 q hq, fun t ht => ?_, fun j hj => ?_⟩
  · rw [va_up_self]
    show upd (R1 4).1 (9 * N + i) x t = _
    rw [pk_un (by omega)]; exact h.2.1 t (by omega)
  · rw [va_up_self]
    show upd (R1 4).1 (9 * N + i) x (9 * N + j) = _
    by_cases c : j = i
    · subst c; rw [pk_us, hx]
    · rw [pk_un (by omega)]; exact h.2.2 j (by omega)
theorem Ref.add {A : Ab} {R R2 R3 R4 R5 R6 : Nat → mRow} {p k : Int32} (h : Ref A R) (hN : aN A < 48) (e2 : R2 = va_up R 1 (upd (R 1).1 (aN A) p, (R 1).2)) (e3 : R3 = va_up R2 2 (upd (R2 2).1 (aN A) k, (R2 2).2)) (e4 : R4 = va_up R3 3 (upd (R3 3).1 (aN A) (vp_nar .boolean (nI 0)), (R3 3).2)) (h5 : nInv R4 R5 (aN A) 9) (e6 : R6 = va_up R5 0 (upd (R5 0).1 1 (nI (aN A + 1)), (R5 0).2)) : Ref (addA A p k) R6 := by
  have f1 : (R6 1).1 = upd (R 1).1 (aN A) p := by rw [e6, va_up_ne _ _ (by decide), h5.1 1 (by decide), e4, va_up_ne _ _ (by decide), e3, va_up_ne _ _ (by decide), e2, va_up_self]
  have f2 : (R6 2).1 = upd (R 2).1 (aN A) k := by rw [e6, va_up_ne _ _ (by decide), h5.1 2 (by decide), e4, va_up_ne _ _ (by decide), e3, va_up_self, e2, va_up_ne _ _ (by decide)]
  have f3 : (R6 3).1 = upd (R 3).1 (aN A) (vp_nar .boolean (nI 0)) := by rw [e6, va_up_ne _ _ (by decide), h5.1 3 (by decide), e4, va_up_self, e3, va_up_ne _ _ (by decide), e2, va_up_ne _ _ (by decide)]
  have g4 : R4 4 = R 4 := by rw [e4, va_up_ne _ _ (by decide), e3, va_up_ne _ _ (by decide), e2, va_up_ne _ _ (by decide)]
  have f4 : R6 4 = R5 4 := by rw [e6, va_up_ne _ _ (by decide)]
  refine ⟨by rw [e6, va_up_self]; exact m_us, fun n hn => ?_, fun i hi => by rw [f4, h5.2.1 (432 + i) (by omega), g4]; exact h.2.2 i hi⟩
  have hn' : n < aN A + 1 := hn
  show (R6 1).1 n = va_up (aP A) (aN A) p n ∧ (R6 2).1 n = va_up (aK A) (aN A) k n ∧ (R6 3).1 n = va_up (aH A) (aN A) 0 n ∧ ∀ j, j < 9 → (R6 4).1 (9 * n + j) = va_up (aU A) (aN A) (fun j => if j < 6 then 0 else 65536) n j
  rw [f1, f2, f3, f4]
  by_cases c : n = aN A
  · rw [c]
    simp only [va_up_self, pk_us]
    exact ⟨trivial, trivial, by decide, fun j hj => h5.2.2 j hj⟩
  · obtain ⟨b1, b2, b3, b4⟩ := h.2.1 n (by omega)
    rw [va_up_ne _ _ c, va_up_ne _ _ c, va_up_ne _ _ c, va_up_ne _ _ c, pk_un c, pk_un c, pk_un c]
    exact ⟨b1, b2, b3, fun j hj => by rw [h5.2.1 (9 * n + j) (by omega), g4]; exact b4 j hj⟩

set_option maxHeartbeats 4000000 in
set_option maxRecDepth 100000 in
theorem kM_thrown (l : Launch) (D : va_G) (cs : Nat → ClassId) (ad : Nat → Nat) (hI : bw_I ad 13) (M : Nat → mRow) (sz : Nat)  : Met l yM_thrown (wc yM_thrown cM_thrown 1 (some .int)) ({ frames := 0, cells := 0, slots := 0, locals := 0 } : Room) (va_Pc [.ref (ad 0)] (mP D cs ad M sz)) (vp_Si (fun r => r = (M 0).1 0)) 0 0 (fun _ => False) := by
  refine Met.ofW (cc := cM_thrown) (maxL := 1) (ret := (some .int)) (by decide +kernel) rfl ?_
  intro p e s m args below meth c s₁ B hml hv
  obtain ⟨rfl, hsz, hP, hE⟩ := hv
  subst hsz
  have hx := B.exec
  have hb := B.bytes
  have hr := B.returns
  have hts : ∀ w9 ∈ ws_all, w9.before ([.ref (ad 0)] : List Value).toArray s = true := fun w9 h => atoms_spec (ws := (wc yM_thrown cM_thrown 1 (some .int))) B.pre w9 (List.mem_cons_of_mem _ h)
  have hown : s.vm.findClass RM = some m.cls := findClass_of_methodNamed B.named
  have hlocks := B.notSynchronized
  have hl := lv_entry ([.ref (ad 0)]) (n := 1) (Nat.le_of_ble_eq_true rfl)
  rw [lg_entry_eq]
  generalize (lg_sl ([.ref (ad 0)]) ++ List.replicate (1 - (lg_sl ([.ref (ad 0)])).length) Slot.unset).toArray = ls at hl ⊢
  have hl : lv_has ls 1 [(0, .ref (ad 0))] := hl
  refine lv_aload_n hx hb dM_thrown_0 rfl (lv_at hl 0 rfl) ?_
  refine bw_get (own := RM) (ci := 2) (C := RM) (T := TM) (N := 14) (v := .int ((M 0).1 0)) hx hb hts inM hown hE hP 0 (by decide) rfl rfl 0 (by decide) w_316 rfl rfl dM_thrown_1 ?_
  exact W.iret (v := (M 0).1 0) hx hb hr (fun t ht hW => ⟨_, rfl, rfl, ht⟩) (fun _ h => nomatch h) dM_thrown_4

set_option maxHeartbeats 4000000 in
set_option maxRecDepth 100000 in
theorem kM_count (l : Launch) (D : va_G) (cs : Nat → ClassId) (ad : Nat → Nat) (hI : bw_I ad 13) (M : Nat → mRow) (sz : Nat) (A : Ab) (hA : aOk A) (hC : Ref A M)  : Met l yM_count (wc yM_count cM_count 1 (some .int)) ({ frames := 0, cells := 0, slots := 0, locals := 0 } : Room) (va_Pc [.ref (ad 0)] (mP D cs ad M sz)) (bQi D ad 13 (mc_cell cs ad) sz (fun r M1 => r = nI (aN A) ∧ Ref A M1)) 0 0 (bw_A ad 13 sz) := by
  refine Met.ofW (cc := cM_count) (maxL := 1) (ret := (some .int)) (by decide +kernel) rfl ?_
  intro p e s m args below meth c s₁ B hml hv
  obtain ⟨rfl, hsz, hP, hE⟩ := hv
  subst hsz
  have hx := B.exec
  have hb := B.bytes
  have hr := B.returns
  have hts : ∀ w9 ∈ ws_all, w9.before ([.ref (ad 0)] : List Value).toArray s = true := fun w9 h => atoms_spec (ws := (wc yM_count cM_count 1 (some .int))) B.pre w9 (List.mem_cons_of_mem _ h)
  have hown : s.vm.findClass RM = some m.cls := findClass_of_methodNamed B.named
  have hlocks := B.notSynchronized
  have hS : va_S (bw_A ad 13 s.heap.size) s.heap s.heap [] := va_S.rf
  have hl := lv_entry ([.ref (ad 0)]) (n := 1) (Nat.le_of_ble_eq_true rfl)
  rw [lg_entry_eq]
  generalize (lg_sl ([.ref (ad 0)]) ++ List.replicate (1 - (lg_sl ([.ref (ad 0)])).length) Slot.unset).toArray = ls at hl ⊢
  have hl : lv_has ls 1 [(0, .ref (ad 0))] := hl
  have hN : aN A ≤ 48 := hA.1
  obtain ⟨hn, hrow, heye⟩ := id hC
  refine lv_aload_n hx hb dM_count_0 rfl (lv_at hl 0 rfl) ?_
  refine lv_iconst (v := nI 0) hx hb dM_count_1 (by decide) ?_
  refine bw_put (own := RM) (ci := 2) (C := RM) (T := TM) (N := 14) (v := .int (nI 0)) (ty := .int) hx hb hts inM tyM tyM_ok nmM hown hE hI hP hS 0 (by decide) rfl rfl 0 (by decide) w_316 rfl rfl ((upd (M 0).1 0 (nI 0), (M 0).2)) rfl (by decide +kernel) rfl rfl (Nat.le_of_ble_eq_true rfl) dM_count_2 (fun M_1 H locs eM_1 hP hS => ?_)
  refine lv_aload_n hx hb dM_count_5 rfl (lv_at hl 0 rfl) ?_
  refine bw_get (own := RM) (ci := 2) (C := RM) (T := TM) (N := 14) (v := .int ((M_1 0).1 1)) hx hb hts inM hown hE hP 0 (by decide) rfl rfl 1 (by decide) w_317 rfl rfl dM_count_6 ?_
  refine ln_asi (nI (aN A)) (by rw [eM_1, va_up_self]; exact (m_un (by decide)).trans hn) ?_
  exact W.iret (v := nI (aN A)) hx hb hr (fun t ht hW => ⟨⟨_, M_1, rfl, ⟨rfl, hC.thr eM_1⟩, by show va_P _ _ _ t.heap; rw [ht]; exact hP⟩, hS.F ht⟩) hS.2.2 dM_count_9

set_option maxHeartbeats 4000000 in
set_option maxRecDepth 100000 in
theorem kM_clear (l : Launch) (D : va_G) (cs : Nat → ClassId) (ad : Nat → Nat) (hI : bw_I ad 13) (M : Nat → mRow) (sz : Nat) (A : Ab) (hA : aOk A) (hC : Ref A M)  : Met l yM_clear (wc yM_clear cM_clear 1 none) ({ frames := 0, cells := 0, slots := 0, locals := 0 } : Room) (va_Pc [.ref (ad 0)] (mP D cs ad M sz)) (bQv D ad 13 (mc_cell cs ad) sz (fun M1 => Ref (clrA A) M1)) 0 0 (bw_A ad 13 sz) := by
  refine Met.ofW (cc := cM_clear) (maxL := 1) (ret := none) (by decide +kernel) rfl ?_
  intro p e s m args below meth c s₁ B hml hv
  obtain ⟨rfl, hsz, hP, hE⟩ := hv
  subst hsz
  have hx := B.exec
  have hb := B.bytes
  have hr := B.returns
  have hts : ∀ w9 ∈ ws_all, w9.before ([.ref (ad 0)] : List Value).toArray s = true := fun w9 h => atoms_spec (ws := (wc yM_clear cM_clear 1 none)) B.pre w9 (List.mem_cons_of_mem _ h)
  have hown : s.vm.findClass RM = some m.cls := findClass_of_methodNamed B.named
  have hlocks := B.notSynchronized
  have hS : va_S (bw_A ad 13 s.heap.size) s.heap s.heap [] := va_S.rf
  have hl := lv_entry ([.ref (ad 0)]) (n := 1) (Nat.le_of_ble_eq_true rfl)
  rw [lg_entry_eq]
  generalize (lg_sl ([.ref (ad 0)]) ++ List.replicate (1 - (lg_sl ([.ref (ad 0)])).length) Slot.unset).toArray = ls at hl ⊢
  have hl : lv_has ls 1 [(0, .ref (ad 0))] := hl
  refine lv_aload_n hx hb dM_clear_0 rfl (lv_at hl 0 rfl) ?_
  refine lv_iconst (v := nI 0) hx hb dM_clear_1 (by decide) ?_
  refine bw_put (own := RM) (ci := 2) (C := RM) (T := TM) (N := 14) (v := .int (nI 0)) (ty := .int) hx hb hts inM tyM tyM_ok nmM hown hE hI hP hS 0 (by decide) rfl rfl 0 (by decide) w_316 rfl rfl ((upd (M 0).1 0 (nI 0), (M 0).2)) rfl (by decide +kernel) rfl rfl (Nat.le_of_ble_eq_true rfl) dM_clear_2 (fun M_1 H locs eM_1 hP hS => ?_)
  refine lv_aload_n hx hb dM_clear_5 rfl (lv_at hl 0 rfl) ?_
  refine lv_iconst (v := nI 0) hx hb dM_clear_6 (by decide) ?_
  refine bw_put (own := RM) (ci := 2) (C := RM) (T := TM) (N := 14) (v := .int (nI 0)) (ty := .int) hx hb hts inM tyM tyM_ok nmM hown hE hI hP hS 0 (by decide) rfl rfl 1 (by decide) w_317 rfl rfl ((upd (M_1 0).1 1 (nI 0), (M_1 0).2)) rfl (by decide +kernel) rfl rfl (Nat.le_of_ble_eq_true rfl) dM_clear_7 (fun M_2 H locs eM_2 hP hS => ?_)
  exact W.vret hx hb hr (fun t ht hW => ⟨⟨M_2, rfl, (hC.thr eM_1).clr eM_2, by show va_P _ _ _ t.heap; rw [ht]; exact hP⟩, hS.F ht⟩) hS.2.2 dM_clear_10

set_option maxHeartbeats 4000000 in
set_option maxRecDepth 100000 in
theorem kM_can (l : Launch) (q v : Int32) : Met l yM_can (wc yM_can cM_can 3 (some .boolean)) ({ frames := 0, cells := 0, slots := 0, locals := 0 } : Room) (va_Pc [.int q, .int v] (fun _ => True)) (vp_Si (jb (jcan (jw q) v))) 0 0 (fun _ => False) := by
  refine Met.ofW (cc := cM_can) (maxL := 3) (ret := (some .boolean)) (by decide +kernel) rfl ?_
  intro p e s m args below meth c s₁ B hml hv
  obtain ⟨rfl, -⟩ := hv
  have hx := B.exec
  have hb := B.bytes
  have hr := B.returns
  have hts : ∀ w9 ∈ ws_all, w9.before ([.int q, .int v] : List Value).toArray s = true := fun w9 h => atoms_spec (ws := (wc yM_can cM_can 3 (some .boolean))) B.pre w9 (List.mem_cons_of_mem _ h)
  have hown : s.vm.findClass RM = some m.cls := findClass_of_methodNamed B.named
  have hlocks := B.notSynchronized
  have hl := lv_entry ([.int q, .int v]) (n := 3) (Nat.le_of_ble_eq_true rfl)
  rw [lg_entry_eq]
  generalize (lg_sl ([.int q, .int v]) ++ List.replicate (3 - (lg_sl ([.int q, .int v])).length) Slot.unset).toArray = ls at hl ⊢
  have hl : lv_has ls 3 [(0, .int q), (1, .int v)] := hl
  refine lv_iload_n hx hb dM_can_0 rfl (lv_at hl 0 rfl) ?_
  refine lv_if_ne (tgt := 9) hx hb dM_can_1 (by decide) (fun c_1 => ?_) (fun c_1 => ?_)
  · skip
    refine lv_ldc (own := RM) (index := 57) (v := 1048576) hx hb hown (hts _ w_389) dM_can_9 ?_
    refine ln_asi (jw q) (by unfold jw; rw [if_neg c_1]) ?_
    refine lv_istore_n (lv' := [(2, .int (jw q)), (0, .int q), (1, .int v)]) hx hb dM_can_11 rfl hl (by decide) rfl (fun ls hl => ?_)
    refine lv_iload_n hx hb dM_can_12 rfl (lv_at hl 2 rfl) ?_
    refine lv_iload_n hx hb dM_can_13 rfl (lv_at hl 0 rfl) ?_
    refine lv_ineg hx hb dM_can_14 ?_
    refine lv_icmp_lt (tgt := 27) hx hb dM_can_15 (by decide) (fun c_15 => ?_) (fun c_15 => ?_)
    · skip
      refine lv_iconst (v := nI 0) hx hb dM_can_27 (by decide) ?_
      exact W.zret (v := nI 0) (ty := .boolean) hx hb hr (by decide) (fun t ht hW => ⟨_, rfl, jb.zero (fun h9 => by simp only [jcan, Int32.lt_iff_toInt_lt, Int32.le_iff_toInt_le, nI, Int32.reduceOfNat, Int32.reduceToInt] at h9 c_15; omega), ht⟩) (fun _ h => nomatch h) dM_can_28
    · skip
      refine lv_iload_n hx hb dM_can_18 rfl (lv_at hl 2 rfl) ?_
      refine lv_iload_n hx hb dM_can_19 rfl (lv_at hl 0 rfl) ?_
      refine lv_icmp_gt (tgt := 27) hx hb dM_can_20 (by decide) (fun c_20 => ?_) (fun c_20 => ?_)
      · skip
        refine lv_iconst (v := nI 0) hx hb dM_can_27 (by decide) ?_
        exact W.zret (v := nI 0) (ty := .boolean) hx hb hr (by decide) (fun t ht hW => ⟨_, rfl, jb.zero (fun h9 => by simp only [jcan, Int32.lt_iff_toInt_lt, Int32.le_iff_toInt_le, nI, Int32.reduceOfNat, Int32.reduceToInt] at h9 c_15 c_20; omega), ht⟩) (fun _ h => nomatch h) dM_can_28
      · skip
        refine lv_iconst (v := nI 1) hx hb dM_can_23 (by decide) ?_
        refine lv_goto (tgt := 28) hx hb dM_can_24 (by decide) ?_
        exact W.zret (v := nI 1) (ty := .boolean) hx hb hr (by decide) (fun t ht hW => ⟨_, rfl, jb.one (by simp only [jcan, Int32.lt_iff_toInt_lt, Int32.le_iff_toInt_le, nI, Int32.reduceOfNat, Int32.reduceToInt] at c_15 c_20 ⊢; omega), ht⟩) (fun _ h => nomatch h) dM_can_28
  · skip
    refine lv_ldc (own := RM) (index := 56) (v := 4194304) hx hb hown (hts _ w_388) dM_can_4 ?_
    refine lv_goto (tgt := 11) hx hb dM_can_6 (by decide) ?_
    refine ln_asi (jw q) (by unfold jw; rw [if_pos c_1]) ?_
    refine lv_istore_n (lv' := [(2, .int (jw q)), (0, .int q), (1, .int v)]) hx hb dM_can_11 rfl hl (by decide) rfl (fun ls hl => ?_)
    refine lv_iload_n hx hb dM_can_12 rfl (lv_at hl 2 rfl) ?_
    refine lv_iload_n hx hb dM_can_13 rfl (lv_at hl 0 rfl) ?_
    refine lv_ineg hx hb dM_can_14 ?_
    refine lv_icmp_lt (tgt := 27) hx hb dM_can_15 (by decide) (fun c_15 => ?_) (fun c_15 => ?_)
    · skip
      refine lv_iconst (v := nI 0) hx hb dM_can_27 (by decide) ?_
      exact W.zret (v := nI 0) (ty := .boolean) hx hb hr (by decide) (fun t ht hW => ⟨_, rfl, jb.zero (fun h9 => by simp only [jcan, Int32.lt_iff_toInt_lt, Int32.le_iff_toInt_le, nI, Int32.reduceOfNat, Int32.reduceToInt] at h9 c_15; omega), ht⟩) (fun _ h => nomatch h) dM_can_28
    · skip
      refine lv_iload_n hx hb dM_can_18 rfl (lv_at hl 2 rfl) ?_
      refine lv_iload_n hx hb dM_can_19 rfl (lv_at hl 0 rfl) ?_
      refine lv_icmp_gt (tgt := 27) hx hb dM_can_20 (by decide) (fun c_20 => ?_) (fun c_20 => ?_)
      · skip
        refine lv_iconst (v := nI 0) hx hb dM_can_27 (by decide) ?_
        exact W.zret (v := nI 0) (ty := .boolean) hx hb hr (by decide) (fun t ht hW => ⟨_, rfl, jb.zero (fun h9 => by simp only [jcan, Int32.lt_iff_toInt_lt, Int32.le_iff_toInt_le, nI, Int32.reduceOfNat, Int32.reduceToInt] at h9 c_15 c_20; omega), ht⟩) (fun _ h => nomatch h) dM_can_28
      · skip
        refine lv_iconst (v := nI 1) hx hb dM_can_23 (by decide) ?_
        refine lv_goto (tgt := 28) hx hb dM_can_24 (by decide) ?_
        exact W.zret (v := nI 1) (ty := .boolean) hx hb hr (by decide) (fun t ht hW => ⟨_, rfl, jb.one (by simp only [jcan, Int32.lt_iff_toInt_lt, Int32.le_iff_toInt_le, nI, Int32.reduceOfNat, Int32.reduceToInt] at c_15 c_20 ⊢; omega), ht⟩) (fun _ h => nomatch h) dM_can_28

set_option maxHeartbeats 4000000 in
set_option maxRecDepth 100000 in
theorem kM_lays (l : Launch) (D : va_G) (cs : Nat → ClassId) (ad : Nat → Nat) (hI : bw_I ad 13) (M : Nat → mRow) (sz : Nat) (a : Nat) (ha : a + 3 ≤ 441) (q x y z : Int32)  : Met l yM_lays (wc yM_lays cM_lays 6 (some .boolean)) ({ frames := 1, cells := 0, slots := 0, locals := 22 } : Room) (va_Pc [.ref (ad 0), .int (nI a), .int q, .int x, .int y, .int z] (mP D cs ad M sz)) (bQi D ad 13 (mc_cell cs ad) sz (fun r M1 => (r = nI 1 ∧ (jcan (jw q) x ∧ jcan (jw q) y ∧ jcan (jw q) z) ∧ M1 = va_up M 4 (lay3 (M 4) a x y z)) ∨ (r = nI 0 ∧ ¬ (jcan (jw q) x ∧ jcan (jw q) y ∧ jcan (jw q) z) ∧ M1 = M))) 0 0 (bw_A ad 13 sz) := by
  refine Met.ofW (cc := cM_lays) (maxL := 6) (ret := (some .boolean)) (by decide +kernel) rfl ?_
  intro p e s m args below meth c s₁ B hml hv
  obtain ⟨rfl, hsz, hP, hE⟩ := hv
  subst hsz
  have hx := B.exec
  have hb := B.bytes
  have hr := B.returns
  have hts : ∀ w9 ∈ ws_all, w9.before ([.ref (ad 0), .int (nI a), .int q, .int x, .int y, .int z] : List Value).toArray s = true := fun w9 h => atoms_spec (ws := (wc yM_lays cM_lays 6 (some .boolean))) B.pre w9 (List.mem_cons_of_mem _ h)
  have hown : s.vm.findClass RM = some m.cls := findClass_of_methodNamed B.named
  have hlocks := B.notSynchronized
  have hS : va_S (bw_A ad 13 s.heap.size) s.heap s.heap [] := va_S.rf
  have hl := lv_entry ([.ref (ad 0), .int (nI a), .int q, .int x, .int y, .int z]) (n := 6) (Nat.le_of_ble_eq_true rfl)
  rw [lg_entry_eq]
  generalize (lg_sl ([.ref (ad 0), .int (nI a), .int q, .int x, .int y, .int z]) ++ List.replicate (6 - (lg_sl ([.ref (ad 0), .int (nI a), .int q, .int x, .int y, .int z])).length) Slot.unset).toArray = ls at hl ⊢
  have hl : lv_has ls 6 [(0, .ref (ad 0)), (1, .int (nI a)), (2, .int q), (3, .int x), (4, .int y), (5, .int z)] := hl
  refine lv_iload_n hx hb dM_lays_0 rfl (lv_at hl 2 rfl) ?_
  refine lv_iload_n hx hb dM_lays_1 rfl (lv_at hl 3 rfl) ?_
  refine vp_callSi (va_Run.run (bc_runS (own := RM) (As := [.int q, .int x]) (rest := []) hx hb (hml.trans hl.1.symm) hown hts (kM_can l q x) w_387 w_385 w_386 w_4 hd_M_can rfl ⟨rfl, rfl⟩ ⟨Nat.le_of_ble_eq_true rfl, Nat.le_of_ble_eq_true rfl⟩ (fun _ _ _ _ _ => trivial) (fun _ _ _ => trivial) rfl (Nat.le_of_ble_eq_true rfl) dM_lays_2 ⟨Nat.le_of_ble_eq_true rfl, Nat.le_of_ble_eq_true rfl⟩)) (fun r_2 hr_2 => ?_)
  refine lv_if_eq (tgt := 26) hx hb dM_lays_5 (by decide) (fun c_5 => ?_) (fun c_5 => ?_)
  · skip
    refine lv_iconst (v := nI 0) hx hb dM_lays_26 (by decide) ?_
    exact W.zret (v := nI 0) (ty := .boolean) hx hb hr (by decide) (fun t ht hW => ⟨⟨_, M, rfl, Or.inr ⟨rfl, fun h9 => hr_2.f c_5 h9.1, rfl⟩, by show va_P _ _ _ t.heap; rw [ht]; exact hP⟩, hS.F ht⟩) hS.2.2 dM_lays_27
  · skip
    refine lv_iload_n hx hb dM_lays_8 rfl (lv_at hl 2 rfl) ?_
    refine lv_iload hx hb dM_lays_9 (lv_at hl 4 rfl) ?_
    refine vp_callSi (va_Run.run (bc_runS (own := RM) (As := [.int q, .int y]) (rest := []) hx hb (hml.trans hl.1.symm) hown hts (kM_can l q y) w_387 w_385 w_386 w_4 hd_M_can rfl ⟨rfl, rfl⟩ ⟨Nat.le_of_ble_eq_true rfl, Nat.le_of_ble_eq_true rfl⟩ (fun _ _ _ _ _ => trivial) (fun _ _ _ => trivial) rfl (Nat.le_of_ble_eq_true rfl) dM_lays_11 ⟨Nat.le_of_ble_eq_true rfl, Nat.le_of_ble_eq_true rfl⟩)) (fun r_11 hr_11 => ?_)
    refine lv_if_eq (tgt := 26) hx hb dM_lays_14 (by decide) (fun c_14 => ?_) (fun c_14 => ?_)
    · skip
      refine lv_iconst (v := nI 0) hx hb dM_lays_26 (by decide) ?_
      exact W.zret (v := nI 0) (ty := .boolean) hx hb hr (by decide) (fun t ht hW => ⟨⟨_, M, rfl, Or.inr ⟨rfl, fun h9 => hr_11.f c_14 h9.2.1, rfl⟩, by show va_P _ _ _ t.heap; rw [ht]; exact hP⟩, hS.F ht⟩) hS.2.2 dM_lays_27
    · skip
      refine lv_iload_n hx hb dM_lays_17 rfl (lv_at hl 2 rfl) ?_
      refine lv_iload hx hb dM_lays_18 (lv_at hl 5 rfl) ?_
      refine vp_callSi (va_Run.run (bc_runS (own := RM) (As := [.int q, .int z]) (rest := []) hx hb (hml.trans hl.1.symm) hown hts (kM_can l q z) w_387 w_385 w_386 w_4 hd_M_can rfl ⟨rfl, rfl⟩ ⟨Nat.le_of_ble_eq_true rfl, Nat.le_of_ble_eq_true rfl⟩ (fun _ _ _ _ _ => trivial) (fun _ _ _ => trivial) rfl (Nat.le_of_ble_eq_true rfl) dM_lays_20 ⟨Nat.le_of_ble_eq_true rfl, Nat.le_of_ble_eq_true rfl⟩)) (fun r_20 hr_20 => ?_)
      refine lv_if_ne (tgt := 28) hx hb dM_lays_23 (by decide) (fun c_23 => ?_) (fun c_23 => ?_)
      · skip
        refine lv_aload_n hx hb dM_lays_28 rfl (lv_at hl 0 rfl) ?_
        refine bw_get (own := RM) (ci := 2) (C := RM) (T := TM) (N := 14) (v := .ref (ad 4)) hx hb hts inM hown hE hP 0 (by decide) rfl rfl 5 (by decide) w_321 rfl rfl dM_lays_29 ?_
        refine lv_iload_n hx hb dM_lays_32 rfl (lv_at hl 1 rfl) ?_
        refine lv_iload_n hx hb dM_lays_33 rfl (lv_at hl 3 rfl) ?_
        refine ln_iast (L := 441) hx hb hE hI hP hS 4 0 (by decide) (rfl) rfl (by omega) (by decide) ((upd (M 4).1 a x, (M 4).2)) (rfl) dM_lays_34 (fun M_1 H locs eM_1 hP hS => ?_)
        refine lv_aload_n hx hb dM_lays_35 rfl (lv_at hl 0 rfl) ?_
        refine bw_get (own := RM) (ci := 2) (C := RM) (T := TM) (N := 14) (v := .ref (ad 4)) hx hb hts inM hown hE hP 0 (by decide) rfl rfl 5 (by decide) w_321 rfl rfl dM_lays_36 ?_
        refine lv_iload_n hx hb dM_lays_39 rfl (lv_at hl 1 rfl) ?_
        refine lv_iconst (v := nI 1) hx hb dM_lays_40 (by decide) ?_
        refine ln_iadd hx hb dM_lays_41 ?_
        refine lv_iload hx hb dM_lays_42 (lv_at hl 4 rfl) ?_
        refine ln_iast (L := 441) hx hb hE hI hP hS 4 0 (by decide) (rfl) rfl (by omega) (by decide) ((upd (M_1 4).1 (a + 1) y, (M_1 4).2)) (rfl) dM_lays_44 (fun M_2 H locs eM_2 hP hS => ?_)
        refine lv_aload_n hx hb dM_lays_45 rfl (lv_at hl 0 rfl) ?_
        refine bw_get (own := RM) (ci := 2) (C := RM) (T := TM) (N := 14) (v := .ref (ad 4)) hx hb hts inM hown hE hP 0 (by decide) rfl rfl 5 (by decide) w_321 rfl rfl dM_lays_46 ?_
        refine lv_iload_n hx hb dM_lays_49 rfl (lv_at hl 1 rfl) ?_
        refine lv_iconst (v := nI 2) hx hb dM_lays_50 (by decide) ?_
        refine ln_iadd hx hb dM_lays_51 ?_
        refine lv_iload hx hb dM_lays_52 (lv_at hl 5 rfl) ?_
        refine ln_iast (L := 441) hx hb hE hI hP hS 4 0 (by decide) (rfl) rfl (by omega) (by decide) ((upd (M_2 4).1 (a + 2) z, (M_2 4).2)) (rfl) dM_lays_54 (fun M_3 H locs eM_3 hP hS => ?_)
        refine lv_iconst (v := nI 1) hx hb dM_lays_55 (by decide) ?_
        exact W.zret (v := nI 1) (ty := .boolean) hx hb hr (by decide) (fun t ht hW => ⟨⟨_, M_3, rfl, Or.inl ⟨rfl, ⟨hr_2.t c_5, hr_11.t c_14, hr_20.t c_23⟩, by rw [eM_3, eM_2, eM_1]; unfold lay3; simp only [va_up_self, bx_uu]⟩, by show va_P _ _ _ t.heap; rw [ht]; exact hP⟩, hS.F ht⟩) hS.2.2 dM_lays_56
      · skip
        refine lv_iconst (v := nI 0) hx hb dM_lays_26 (by decide) ?_
        exact W.zret (v := nI 0) (ty := .boolean) hx hb hr (by decide) (fun t ht hW => ⟨⟨_, M, rfl, Or.inr ⟨rfl, fun h9 => hr_20.f c_23 h9.2.2, rfl⟩, by show va_P _ _ _ t.heap; rw [ht]; exact hP⟩, hS.F ht⟩) hS.2.2 dM_lays_27

set_option maxHeartbeats 4000000 in
set_option maxRecDepth 100000 in
theorem kM_set (l : Launch) (D : va_G) (cs : Nat → ClassId) (ad : Nat → Nat) (hI : bw_I ad 13) (M : Nat → mRow) (sz : Nat) (A : Ab) (hA : aOk A) (hC : Ref A M) (n q x y z : Int32)  : Met l yM_set (wc yM_set cM_set 6 (some .boolean)) ({ frames := 2, cells := 0, slots := 0, locals := 47 } : Room) (va_Pc [.ref (ad 0), .int n, .int q, .int x, .int y, .int z] (mP D cs ad M sz)) (bQi D ad 13 (mc_cell cs ad) sz (fun r M1 => (r = nI 1 ∧ pSet A n q x y z ∧ Ref (setA A n.toNatClampNeg q.toNatClampNeg x y z) M1) ∨ (r = nI 0 ∧ ¬ pSet A n q x y z ∧ Ref A M1))) 0 0 (bw_A ad 13 sz) := by
  refine Met.ofW (cc := cM_set) (maxL := 6) (ret := (some .boolean)) (by decide +kernel) rfl ?_
  intro p e s m args below meth c s₁ B hml hv
  obtain ⟨rfl, hsz, hP, hE⟩ := hv
  subst hsz
  have hx := B.exec
  have hb := B.bytes
  have hr := B.returns
  have hts : ∀ w9 ∈ ws_all, w9.before ([.ref (ad 0), .int n, .int q, .int x, .int y, .int z] : List Value).toArray s = true := fun w9 h => atoms_spec (ws := (wc yM_set cM_set 6 (some .boolean))) B.pre w9 (List.mem_cons_of_mem _ h)
  have hown : s.vm.findClass RM = some m.cls := findClass_of_methodNamed B.named
  have hlocks := B.notSynchronized
  have hS : va_S (bw_A ad 13 s.heap.size) s.heap s.heap [] := va_S.rf
  have hl := lv_entry ([.ref (ad 0), .int n, .int q, .int x, .int y, .int z]) (n := 6) (Nat.le_of_ble_eq_true rfl)
  rw [lg_entry_eq]
  generalize (lg_sl ([.ref (ad 0), .int n, .int q, .int x, .int y, .int z]) ++ List.replicate (6 - (lg_sl ([.ref (ad 0), .int n, .int q, .int x, .int y, .int z])).length) Slot.unset).toArray = ls at hl ⊢
  have hl : lv_has ls 6 [(0, .ref (ad 0)), (1, .int n), (2, .int q), (3, .int x), (4, .int y), (5, .int z)] := hl
  have hN : aN A ≤ 48 := hA.1
  obtain ⟨hn, hrow, heye⟩ := id hC
  refine lv_aload_n hx hb dM_set_0 rfl (lv_at hl 0 rfl) ?_
  refine lv_iconst (v := nI 0) hx hb dM_set_1 (by decide) ?_
  refine bw_put (own := RM) (ci := 2) (C := RM) (T := TM) (N := 14) (v := .int (nI 0)) (ty := .int) hx hb hts inM tyM tyM_ok nmM hown hE hI hP hS 0 (by decide) rfl rfl 0 (by decide) w_316 rfl rfl ((upd (M 0).1 0 (nI 0), (M 0).2)) rfl (by decide +kernel) rfl rfl (Nat.le_of_ble_eq_true rfl) dM_set_2 (fun M_1 H locs eM_1 hP hS => ?_)
  refine lv_aload_n hx hb dM_set_5 rfl (lv_at hl 0 rfl) ?_
  refine lv_iload_n hx hb dM_set_6 rfl (lv_at hl 1 rfl) ?_
  refine vp_callSi (va_Run.run (bc_runV (own := RM) (C := RM) (As := [.int n]) (rest := []) hx hb (hml.trans hl.1.symm) hown hts (kM_isNode l D cs ad hI M_1 H.size n) w_380 w_377 w_379 ws_sel_M_isNode w_4 ⟨rfl, hd_M_isNode⟩ rfl ⟨rfl, rfl⟩ ⟨Nat.le_of_ble_eq_true rfl, Nat.le_of_ble_eq_true rfl⟩ (fun _ _ _ _ h => h.calling) (bc_recv (r := (RM, TM, 14)) hE hP 0 (by decide) rfl rfl) (fun U hU hW => ⟨by rw [hU], by rw [hU]; exact hP, hE.warm hW⟩) rfl (Nat.le_of_ble_eq_true rfl) dM_set_7 ⟨Nat.le_of_ble_eq_true rfl, Nat.le_of_ble_eq_true rfl⟩)) (fun r_7 hr_7 => ?_)
  rw [eM_1, va_up_self, show (upd (M 0).1 0 (nI 0), (M 0).2).1 1 = (M 0).1 1 from m_un (by decide), hn] at hr_7
  refine lv_if_eq (tgt := 47) hx hb dM_set_10 (by decide) (fun c_10 => ?_) (fun c_10 => ?_)
  · skip
    refine lv_iconst (v := nI 0) hx hb dM_set_47 (by decide) ?_
    exact W.zret (v := nI 0) (ty := .boolean) hx hb hr (by decide) (fun t ht hW => ⟨⟨_, M_1, rfl, Or.inr ⟨rfl, fun h9 => hr_7.f c_10 h9.1, hC.thr eM_1⟩, by show va_P _ _ _ t.heap; rw [ht]; exact hP⟩, hS.F ht⟩) hS.2.2 dM_set_48
  · skip
    refine lv_iload_n hx hb dM_set_13 rfl (lv_at hl 2 rfl) ?_
    refine lv_if_lt (tgt := 47) hx hb dM_set_14 (by decide) (fun c_14 => ?_) (fun c_14 => ?_)
    · skip
      refine lv_iconst (v := nI 0) hx hb dM_set_47 (by decide) ?_
      exact W.zret (v := nI 0) (ty := .boolean) hx hb hr (by decide) (fun t ht hW => ⟨⟨_, M_1, rfl, Or.inr ⟨rfl, fun h9 => by have := h9.2.1.1; simp only [Int32.lt_iff_toInt_lt, Int32.le_iff_toInt_le, nI, Int32.reduceOfNat, Int32.reduceToInt] at c_14 this; omega, hC.thr eM_1⟩, by show va_P _ _ _ t.heap; rw [ht]; exact hP⟩, hS.F ht⟩) hS.2.2 dM_set_48
    · skip
      refine lv_iload_n hx hb dM_set_17 rfl (lv_at hl 2 rfl) ?_
      refine lv_iconst (v := nI 3) hx hb dM_set_18 (by decide) ?_
      refine lv_icmp_ge (tgt := 47) hx hb dM_set_19 (by decide) (fun c_19 => ?_) (fun c_19 => ?_)
      · skip
        refine lv_iconst (v := nI 0) hx hb dM_set_47 (by decide) ?_
        exact W.zret (v := nI 0) (ty := .boolean) hx hb hr (by decide) (fun t ht hW => ⟨⟨_, M_1, rfl, Or.inr ⟨rfl, fun h9 => by have := h9.2.1.2; simp only [Int32.lt_iff_toInt_lt, Int32.le_iff_toInt_le, nI, Int32.reduceOfNat, Int32.reduceToInt] at c_19 this; omega, hC.thr eM_1⟩, by show va_P _ _ _ t.heap; rw [ht]; exact hP⟩, hS.F ht⟩) hS.2.2 dM_set_48
      · skip
        have hq9 : 0 ≤ q ∧ q ≤ nI 2 := by simp only [Int32.lt_iff_toInt_lt, Int32.le_iff_toInt_le, nI, Int32.reduceOfNat, Int32.reduceToInt] at c_14 c_19 ⊢; omega
        have hn9 := hr_7.t c_10
        obtain ⟨j, hj, rfl⟩ := rng_lt hn9.1 hn9.2 (by omega)
        obtain ⟨u, hu, rfl⟩ := rng_le hq9.1 hq9.2 (by decide)
        refine lv_aload_n hx hb dM_set_22 rfl (lv_at hl 0 rfl) ?_
        refine lv_bipush (v := nI 9) hx hb dM_set_23 (by decide) ?_
        refine lv_iload_n hx hb dM_set_25 rfl (lv_at hl 1 rfl) ?_
        refine ln_imul hx hb dM_set_26 ?_
        refine lv_iconst (v := nI 3) hx hb dM_set_27 (by decide) ?_
        refine lv_iload_n hx hb dM_set_28 rfl (lv_at hl 2 rfl) ?_
        refine ln_imul hx hb dM_set_29 ?_
        refine ln_iadd hx hb dM_set_30 ?_
        refine lv_iload_n hx hb dM_set_31 rfl (lv_at hl 2 rfl) ?_
        refine lv_iload_n hx hb dM_set_32 rfl (lv_at hl 3 rfl) ?_
        refine lv_iload hx hb dM_set_33 (lv_at hl 4 rfl) ?_
        refine lv_iload hx hb dM_set_35 (lv_at hl 5 rfl) ?_
        refine bc_calli (bc_runV (own := RM) (C := RM) (As := [.int (nI ((9 * j) + (3 * u))), .int (nI u), .int x, .int y, .int z]) (rest := []) hx hb (hml.trans hl.1.symm) hown hts (kM_lays l D cs ad hI M_1 H.size (9 * j + 3 * u) (by omega) (nI u) x y z) w_384 w_381 w_383 ws_sel_M_lays w_4 ⟨rfl, hd_M_lays⟩ rfl ⟨rfl, rfl⟩ ⟨Nat.le_of_ble_eq_true rfl, Nat.le_of_ble_eq_true rfl⟩ (fun _ _ _ _ h => h.calling) (bc_recv (r := (RM, TM, 14)) hE hP 0 (by decide) rfl rfl) (fun U hU hW => ⟨by rw [hU], by rw [hU]; exact hP, hE.warm hW⟩) rfl (Nat.le_of_ble_eq_true rfl) dM_set_37 ⟨Nat.le_of_ble_eq_true rfl, Nat.le_of_ble_eq_true rfl⟩) hS (fun r_37 M_2 H locs hr_37 hP hS => ?_)
        have hl9 := hr_37
        refine lv_if_eq (tgt := 47) hx hb dM_set_40 (by decide) (fun c_40 => ?_) (fun c_40 => ?_)
        · skip
          refine lv_iconst (v := nI 0) hx hb dM_set_47 (by decide) ?_
          exact W.zret (v := nI 0) (ty := .boolean) hx hb hr (by decide) (fun t ht hW => ⟨⟨_, M_2, rfl, by rcases hl9 with ⟨h8, -, -⟩ | ⟨-, h8, h7⟩; exact absurd (h8.symm.trans c_40) (by decide); exact Or.inr ⟨rfl, fun h9 => h8 h9.2.2, by rw [h7]; exact hC.thr eM_1⟩, by show va_P _ _ _ t.heap; rw [ht]; exact hP⟩, hS.F ht⟩) hS.2.2 dM_set_48
        · skip
          refine lv_iconst (v := nI 1) hx hb dM_set_43 (by decide) ?_
          refine lv_goto (tgt := 48) hx hb dM_set_44 (by decide) ?_
          exact W.zret (v := nI 1) (ty := .boolean) hx hb hr (by decide) (fun t ht hW => ⟨⟨_, M_2, rfl, by rcases hl9 with ⟨-, h8, h7⟩ | ⟨h8, -, -⟩; exact Or.inl ⟨rfl, ⟨hn9, hq9, h8⟩, by rw [nI_clamp (by omega), nI_clamp (by omega)]; exact (hC.thr eM_1).set hA hj (by omega) h7⟩; exact absurd h8 c_40, by show va_P _ _ _ t.heap; rw [ht]; exact hP⟩, hS.F ht⟩) hS.2.2 dM_set_48

set_option maxHeartbeats 4000000 in
set_option maxRecDepth 100000 in
theorem kM_hang (l : Launch) (D : va_G) (cs : Nat → ClassId) (ad : Nat → Nat) (hI : bw_I ad 13) (M : Nat → mRow) (sz : Nat) (A : Ab) (hA : aOk A) (hC : Ref A M) (n q : Int32)  : Met l yM_hang (wc yM_hang cM_hang 3 (some .boolean)) ({ frames := 1, cells := 0, slots := 0, locals := 21 } : Room) (va_Pc [.ref (ad 0), .int n, .int q] (mP D cs ad M sz)) (bQi D ad 13 (mc_cell cs ad) sz (fun r M1 => (r = nI 1 ∧ pHang A n q ∧ Ref (hangA A n.toNatClampNeg q) M1) ∨ (r = nI 0 ∧ ¬ pHang A n q ∧ Ref A M1))) 0 0 (bw_A ad 13 sz) := by
  refine Met.ofW (cc := cM_hang) (maxL := 3) (ret := (some .boolean)) (by decide +kernel) rfl ?_
  intro p e s m args below meth c s₁ B hml hv
  obtain ⟨rfl, hsz, hP, hE⟩ := hv
  subst hsz
  have hx := B.exec
  have hb := B.bytes
  have hr := B.returns
  have hts : ∀ w9 ∈ ws_all, w9.before ([.ref (ad 0), .int n, .int q] : List Value).toArray s = true := fun w9 h => atoms_spec (ws := (wc yM_hang cM_hang 3 (some .boolean))) B.pre w9 (List.mem_cons_of_mem _ h)
  have hown : s.vm.findClass RM = some m.cls := findClass_of_methodNamed B.named
  have hlocks := B.notSynchronized
  have hS : va_S (bw_A ad 13 s.heap.size) s.heap s.heap [] := va_S.rf
  have hl := lv_entry ([.ref (ad 0), .int n, .int q]) (n := 3) (Nat.le_of_ble_eq_true rfl)
  rw [lg_entry_eq]
  generalize (lg_sl ([.ref (ad 0), .int n, .int q]) ++ List.replicate (3 - (lg_sl ([.ref (ad 0), .int n, .int q])).length) Slot.unset).toArray = ls at hl ⊢
  have hl : lv_has ls 3 [(0, .ref (ad 0)), (1, .int n), (2, .int q)] := hl
  have hN : aN A ≤ 48 := hA.1
  obtain ⟨hn, hrow, heye⟩ := id hC
  refine lv_aload_n hx hb dM_hang_0 rfl (lv_at hl 0 rfl) ?_
  refine lv_iconst (v := nI 0) hx hb dM_hang_1 (by decide) ?_
  refine bw_put (own := RM) (ci := 2) (C := RM) (T := TM) (N := 14) (v := .int (nI 0)) (ty := .int) hx hb hts inM tyM tyM_ok nmM hown hE hI hP hS 0 (by decide) rfl rfl 0 (by decide) w_316 rfl rfl ((upd (M 0).1 0 (nI 0), (M 0).2)) rfl (by decide +kernel) rfl rfl (Nat.le_of_ble_eq_true rfl) dM_hang_2 (fun M_1 H locs eM_1 hP hS => ?_)
  refine lv_aload_n hx hb dM_hang_5 rfl (lv_at hl 0 rfl) ?_
  refine lv_iload_n hx hb dM_hang_6 rfl (lv_at hl 1 rfl) ?_
  refine vp_callSi (va_Run.run (bc_runV (own := RM) (C := RM) (As := [.int n]) (rest := []) hx hb (hml.trans hl.1.symm) hown hts (kM_isNode l D cs ad hI M_1 H.size n) w_380 w_377 w_379 ws_sel_M_isNode w_4 ⟨rfl, hd_M_isNode⟩ rfl ⟨rfl, rfl⟩ ⟨Nat.le_of_ble_eq_true rfl, Nat.le_of_ble_eq_true rfl⟩ (fun _ _ _ _ h => h.calling) (bc_recv (r := (RM, TM, 14)) hE hP 0 (by decide) rfl rfl) (fun U hU hW => ⟨by rw [hU], by rw [hU]; exact hP, hE.warm hW⟩) rfl (Nat.le_of_ble_eq_true rfl) dM_hang_7 ⟨Nat.le_of_ble_eq_true rfl, Nat.le_of_ble_eq_true rfl⟩)) (fun r_7 hr_7 => ?_)
  rw [eM_1, va_up_self, show (upd (M 0).1 0 (nI 0), (M 0).2).1 1 = (M 0).1 1 from m_un (by decide), hn] at hr_7
  refine lv_if_eq (tgt := 23) hx hb dM_hang_10 (by decide) (fun c_10 => ?_) (fun c_10 => ?_)
  · skip
    refine lv_iconst (v := nI 0) hx hb dM_hang_23 (by decide) ?_
    exact W.zret (v := nI 0) (ty := .boolean) hx hb hr (by decide) (fun t ht hW => ⟨⟨_, M_1, rfl, Or.inr ⟨rfl, fun h9 => hr_7.f c_10 h9.1, hC.thr eM_1⟩, by show va_P _ _ _ t.heap; rw [ht]; exact hP⟩, hS.F ht⟩) hS.2.2 dM_hang_24
  · skip
    refine lv_iload_n hx hb dM_hang_13 rfl (lv_at hl 2 rfl) ?_
    refine lv_iconst (v := (-1)) hx hb dM_hang_14 (by decide) ?_
    refine lv_icmp_lt (tgt := 23) hx hb dM_hang_15 (by decide) (fun c_15 => ?_) (fun c_15 => ?_)
    · skip
      refine lv_iconst (v := nI 0) hx hb dM_hang_23 (by decide) ?_
      exact W.zret (v := nI 0) (ty := .boolean) hx hb hr (by decide) (fun t ht hW => ⟨⟨_, M_1, rfl, Or.inr ⟨rfl, fun h9 => by have := h9.2.1; simp only [Int32.lt_iff_toInt_lt, Int32.le_iff_toInt_le, nI, Int32.reduceOfNat, Int32.reduceToInt] at c_15 this; omega, hC.thr eM_1⟩, by show va_P _ _ _ t.heap; rw [ht]; exact hP⟩, hS.F ht⟩) hS.2.2 dM_hang_24
    · skip
      refine lv_iload_n hx hb dM_hang_18 rfl (lv_at hl 2 rfl) ?_
      refine lv_iload_n hx hb dM_hang_19 rfl (lv_at hl 1 rfl) ?_
      refine lv_icmp_lt (tgt := 25) hx hb dM_hang_20 (by decide) (fun c_20 => ?_) (fun c_20 => ?_)
      · skip
        have hp9 : pHang A n q := ⟨hr_7.t c_10, by simp only [Int32.lt_iff_toInt_lt, Int32.le_iff_toInt_le, nI, Int32.reduceOfNat, Int32.reduceToInt] at c_15 c_20 ⊢; omega⟩
        obtain ⟨j, hj, rfl⟩ := rng_lt hp9.1.1 hp9.1.2 (by omega)
        refine lv_aload_n hx hb dM_hang_25 rfl (lv_at hl 0 rfl) ?_
        refine bw_get (own := RM) (ci := 2) (C := RM) (T := TM) (N := 14) (v := .ref (ad 1)) hx hb hts inM hown hE hP 0 (by decide) rfl rfl 2 (by decide) w_318 rfl rfl dM_hang_26 ?_
        refine lv_iload_n hx hb dM_hang_29 rfl (lv_at hl 1 rfl) ?_
        refine lv_iload_n hx hb dM_hang_30 rfl (lv_at hl 2 rfl) ?_
        refine ln_iast (L := 48) hx hb hE hI hP hS 1 0 (by decide) (rfl) rfl (by omega) (by decide) ((upd (M_1 1).1 j q, (M_1 1).2)) (rfl) dM_hang_31 (fun M_2 H locs eM_2 hP hS => ?_)
        refine lv_iconst (v := nI 1) hx hb dM_hang_32 (by decide) ?_
        exact W.zret (v := nI 1) (ty := .boolean) hx hb hr (by decide) (fun t ht hW => ⟨⟨_, M_2, rfl, Or.inl ⟨rfl, hp9, by rw [nI_clamp (by omega)]; exact (hC.thr eM_1).hang eM_2⟩, by show va_P _ _ _ t.heap; rw [ht]; exact hP⟩, hS.F ht⟩) hS.2.2 dM_hang_33
      · skip
        refine lv_iconst (v := nI 0) hx hb dM_hang_23 (by decide) ?_
        exact W.zret (v := nI 0) (ty := .boolean) hx hb hr (by decide) (fun t ht hW => ⟨⟨_, M_1, rfl, Or.inr ⟨rfl, fun h9 => by have := h9.2.2; simp only [Int32.lt_iff_toInt_lt, Int32.le_iff_toInt_le, nI, Int32.reduceOfNat, Int32.reduceToInt] at c_20 this; omega, hC.thr eM_1⟩, by show va_P _ _ _ t.heap; rw [ht]; exact hP⟩, hS.F ht⟩) hS.2.2 dM_hang_24

set_option maxHeartbeats 4000000 in
set_option maxRecDepth 100000 in
theorem kM_hide (l : Launch) (D : va_G) (cs : Nat → ClassId) (ad : Nat → Nat) (hI : bw_I ad 13) (M : Nat → mRow) (sz : Nat) (A : Ab) (hA : aOk A) (hC : Ref A M) (n b : Int32)  : Met l yM_hide (wc yM_hide cM_hide 3 (some .boolean)) ({ frames := 1, cells := 0, slots := 0, locals := 21 } : Room) (va_Pc [.ref (ad 0), .int n, .int b] (mP D cs ad M sz)) (bQi D ad 13 (mc_cell cs ad) sz (fun r M1 => (r = nI 1 ∧ pNode A n ∧ Ref (hideA A n.toNatClampNeg b) M1) ∨ (r = nI 0 ∧ ¬ pNode A n ∧ Ref A M1))) 0 0 (bw_A ad 13 sz) := by
  refine Met.ofW (cc := cM_hide) (maxL := 3) (ret := (some .boolean)) (by decide +kernel) rfl ?_
  intro p e s m args below meth c s₁ B hml hv
  obtain ⟨rfl, hsz, hP, hE⟩ := hv
  subst hsz
  have hx := B.exec
  have hb := B.bytes
  have hr := B.returns
  have hts : ∀ w9 ∈ ws_all, w9.before ([.ref (ad 0), .int n, .int b] : List Value).toArray s = true := fun w9 h => atoms_spec (ws := (wc yM_hide cM_hide 3 (some .boolean))) B.pre w9 (List.mem_cons_of_mem _ h)
  have hown : s.vm.findClass RM = some m.cls := findClass_of_methodNamed B.named
  have hlocks := B.notSynchronized
  have hS : va_S (bw_A ad 13 s.heap.size) s.heap s.heap [] := va_S.rf
  have hl := lv_entry ([.ref (ad 0), .int n, .int b]) (n := 3) (Nat.le_of_ble_eq_true rfl)
  rw [lg_entry_eq]
  generalize (lg_sl ([.ref (ad 0), .int n, .int b]) ++ List.replicate (3 - (lg_sl ([.ref (ad 0), .int n, .int b])).length) Slot.unset).toArray = ls at hl ⊢
  have hl : lv_has ls 3 [(0, .ref (ad 0)), (1, .int n), (2, .int b)] := hl
  have hN : aN A ≤ 48 := hA.1
  obtain ⟨hn, hrow, heye⟩ := id hC
  refine lv_aload_n hx hb dM_hide_0 rfl (lv_at hl 0 rfl) ?_
  refine lv_iconst (v := nI 0) hx hb dM_hide_1 (by decide) ?_
  refine bw_put (own := RM) (ci := 2) (C := RM) (T := TM) (N := 14) (v := .int (nI 0)) (ty := .int) hx hb hts inM tyM tyM_ok nmM hown hE hI hP hS 0 (by decide) rfl rfl 0 (by decide) w_316 rfl rfl ((upd (M 0).1 0 (nI 0), (M 0).2)) rfl (by decide +kernel) rfl rfl (Nat.le_of_ble_eq_true rfl) dM_hide_2 (fun M_1 H locs eM_1 hP hS => ?_)
  refine lv_aload_n hx hb dM_hide_5 rfl (lv_at hl 0 rfl) ?_
  refine lv_iload_n hx hb dM_hide_6 rfl (lv_at hl 1 rfl) ?_
  refine vp_callSi (va_Run.run (bc_runV (own := RM) (C := RM) (As := [.int n]) (rest := []) hx hb (hml.trans hl.1.symm) hown hts (kM_isNode l D cs ad hI M_1 H.size n) w_380 w_377 w_379 ws_sel_M_isNode w_4 ⟨rfl, hd_M_isNode⟩ rfl ⟨rfl, rfl⟩ ⟨Nat.le_of_ble_eq_true rfl, Nat.le_of_ble_eq_true rfl⟩ (fun _ _ _ _ h => h.calling) (bc_recv (r := (RM, TM, 14)) hE hP 0 (by decide) rfl rfl) (fun U hU hW => ⟨by rw [hU], by rw [hU]; exact hP, hE.warm hW⟩) rfl (Nat.le_of_ble_eq_true rfl) dM_hide_7 ⟨Nat.le_of_ble_eq_true rfl, Nat.le_of_ble_eq_true rfl⟩)) (fun r_7 hr_7 => ?_)
  rw [eM_1, va_up_self, show (upd (M 0).1 0 (nI 0), (M 0).2).1 1 = (M 0).1 1 from m_un (by decide), hn] at hr_7
  refine lv_if_ne (tgt := 15) hx hb dM_hide_10 (by decide) (fun c_10 => ?_) (fun c_10 => ?_)
  · skip
    have hp9 : pNode A n := hr_7.t c_10
    obtain ⟨j, hj, rfl⟩ := rng_lt hp9.1 hp9.2 (by omega)
    refine lv_aload_n hx hb dM_hide_15 rfl (lv_at hl 0 rfl) ?_
    refine bw_get (own := RM) (ci := 2) (C := RM) (T := TM) (N := 14) (v := .ref (ad 3)) hx hb hts inM hown hE hP 0 (by decide) rfl rfl 4 (by decide) w_320 rfl rfl dM_hide_16 ?_
    refine lv_iload_n hx hb dM_hide_19 rfl (lv_at hl 1 rfl) ?_
    refine lv_iload_n hx hb dM_hide_20 rfl (lv_at hl 2 rfl) ?_
    refine ln_zast (L := 48) hx hb hE hI hP hS 3 1 (by decide) (rfl) rfl (by omega) (by decide) ((upd (M_1 3).1 j (vp_nar .boolean b), (M_1 3).2)) (rfl) dM_hide_21 (fun M_2 H locs eM_2 hP hS => ?_)
    refine lv_iconst (v := nI 1) hx hb dM_hide_22 (by decide) ?_
    exact W.zret (v := nI 1) (ty := .boolean) hx hb hr (by decide) (fun t ht hW => ⟨⟨_, M_2, rfl, Or.inl ⟨rfl, hp9, by rw [nI_clamp (by omega)]; exact (hC.thr eM_1).hide eM_2⟩, by show va_P _ _ _ t.heap; rw [ht]; exact hP⟩, hS.F ht⟩) hS.2.2 dM_hide_23
  · skip
    refine lv_iconst (v := nI 0) hx hb dM_hide_13 (by decide) ?_
    exact W.zret (v := nI 0) (ty := .boolean) hx hb hr (by decide) (fun t ht hW => ⟨⟨_, M_1, rfl, Or.inr ⟨rfl, hr_7.f c_10, hC.thr eM_1⟩, by show va_P _ _ _ t.heap; rw [ht]; exact hP⟩, hS.F ht⟩) hS.2.2 dM_hide_14

set_option maxHeartbeats 4000000 in
set_option maxRecDepth 100000 in
theorem kM_camera (l : Launch) (D : va_G) (cs : Nat → ClassId) (ad : Nat → Nat) (hI : bw_I ad 13) (M : Nat → mRow) (sz : Nat) (A : Ab) (hA : aOk A) (hC : Ref A M) (q x y z : Int32)  : Met l yM_camera (wc yM_camera cM_camera 5 (some .boolean)) ({ frames := 2, cells := 0, slots := 0, locals := 47 } : Room) (va_Pc [.ref (ad 0), .int q, .int x, .int y, .int z] (mP D cs ad M sz)) (bQi D ad 13 (mc_cell cs ad) sz (fun r M1 => (r = nI 1 ∧ pCam q x y z ∧ Ref (camA A q.toNatClampNeg x y z) M1) ∨ (r = nI 0 ∧ ¬ pCam q x y z ∧ Ref A M1))) 0 0 (bw_A ad 13 sz) := by
  refine Met.ofW (cc := cM_camera) (maxL := 5) (ret := (some .boolean)) (by decide +kernel) rfl ?_
  intro p e s m args below meth c s₁ B hml hv
  obtain ⟨rfl, hsz, hP, hE⟩ := hv
  subst hsz
  have hx := B.exec
  have hb := B.bytes
  have hr := B.returns
  have hts : ∀ w9 ∈ ws_all, w9.before ([.ref (ad 0), .int q, .int x, .int y, .int z] : List Value).toArray s = true := fun w9 h => atoms_spec (ws := (wc yM_camera cM_camera 5 (some .boolean))) B.pre w9 (List.mem_cons_of_mem _ h)
  have hown : s.vm.findClass RM = some m.cls := findClass_of_methodNamed B.named
  have hlocks := B.notSynchronized
  have hS : va_S (bw_A ad 13 s.heap.size) s.heap s.heap [] := va_S.rf
  have hl := lv_entry ([.ref (ad 0), .int q, .int x, .int y, .int z]) (n := 5) (Nat.le_of_ble_eq_true rfl)
  rw [lg_entry_eq]
  generalize (lg_sl ([.ref (ad 0), .int q, .int x, .int y, .int z]) ++ List.replicate (5 - (lg_sl ([.ref (ad 0), .int q, .int x, .int y, .int z])).length) Slot.unset).toArray = ls at hl ⊢
  have hl : lv_has ls 5 [(0, .ref (ad 0)), (1, .int q), (2, .int x), (3, .int y), (4, .int z)] := hl
  have hN : aN A ≤ 48 := hA.1
  obtain ⟨hn, hrow, heye⟩ := id hC
  refine lv_aload_n hx hb dM_camera_0 rfl (lv_at hl 0 rfl) ?_
  refine lv_iconst (v := nI 0) hx hb dM_camera_1 (by decide) ?_
  refine bw_put (own := RM) (ci := 2) (C := RM) (T := TM) (N := 14) (v := .int (nI 0)) (ty := .int) hx hb hts inM tyM tyM_ok nmM hown hE hI hP hS 0 (by decide) rfl rfl 0 (by decide) w_316 rfl rfl ((upd (M 0).1 0 (nI 0), (M 0).2)) rfl (by decide +kernel) rfl rfl (Nat.le_of_ble_eq_true rfl) dM_camera_2 (fun M_1 H locs eM_1 hP hS => ?_)
  refine lv_iload_n hx hb dM_camera_5 rfl (lv_at hl 1 rfl) ?_
  refine lv_if_eq (tgt := 14) hx hb dM_camera_6 (by decide) (fun c_6 => ?_) (fun c_6 => ?_)
  · skip
    obtain ⟨u, hu, rfl⟩ : ∃ u, u < 2 ∧ q = nI u := ⟨0, by decide, c_6⟩
    have hq9 : 0 ≤ nI u ∧ nI u ≤ nI 1 := ⟨nI_pos' (by omega), nI_le (by omega) (by decide)⟩
    refine lv_aload_n hx hb dM_camera_14 rfl (lv_at hl 0 rfl) ?_
    refine lv_sipush (v := nI 432) hx hb dM_camera_15 (by decide) ?_
    refine lv_iconst (v := nI 3) hx hb dM_camera_18 (by decide) ?_
    refine lv_iload_n hx hb dM_camera_19 rfl (lv_at hl 1 rfl) ?_
    refine ln_imul hx hb dM_camera_20 ?_
    refine ln_iadd hx hb dM_camera_21 ?_
    refine lv_iload_n hx hb dM_camera_22 rfl (lv_at hl 1 rfl) ?_
    refine lv_iload_n hx hb dM_camera_23 rfl (lv_at hl 2 rfl) ?_
    refine lv_iload_n hx hb dM_camera_24 rfl (lv_at hl 3 rfl) ?_
    refine lv_iload hx hb dM_camera_25 (lv_at hl 4 rfl) ?_
    refine bc_calli (bc_runV (own := RM) (C := RM) (As := [.int (nI (432 + (3 * u))), .int (nI u), .int x, .int y, .int z]) (rest := []) hx hb (hml.trans hl.1.symm) hown hts (kM_lays l D cs ad hI M_1 H.size (432 + 3 * u) (by omega) (nI u) x y z) w_384 w_381 w_383 ws_sel_M_lays w_4 ⟨rfl, hd_M_lays⟩ rfl ⟨rfl, rfl⟩ ⟨Nat.le_of_ble_eq_true rfl, Nat.le_of_ble_eq_true rfl⟩ (fun _ _ _ _ h => h.calling) (bc_recv (r := (RM, TM, 14)) hE hP 0 (by decide) rfl rfl) (fun U hU hW => ⟨by rw [hU], by rw [hU]; exact hP, hE.warm hW⟩) rfl (Nat.le_of_ble_eq_true rfl) dM_camera_27 ⟨Nat.le_of_ble_eq_true rfl, Nat.le_of_ble_eq_true rfl⟩) hS (fun r_27 M_2 H locs hr_27 hP hS => ?_)
    have hl9 := hr_27
    refine lv_if_eq (tgt := 37) hx hb dM_camera_30 (by decide) (fun c_30 => ?_) (fun c_30 => ?_)
    · skip
      refine lv_iconst (v := nI 0) hx hb dM_camera_37 (by decide) ?_
      exact W.zret (v := nI 0) (ty := .boolean) hx hb hr (by decide) (fun t ht hW => ⟨⟨_, M_2, rfl, by rcases hl9 with ⟨h8, -, -⟩ | ⟨-, h8, h7⟩; exact absurd (h8.symm.trans c_30) (by decide); exact Or.inr ⟨rfl, fun h9 => h8 h9.2, by rw [h7]; exact hC.thr eM_1⟩, by show va_P _ _ _ t.heap; rw [ht]; exact hP⟩, hS.F ht⟩) hS.2.2 dM_camera_38
    · skip
      refine lv_iconst (v := nI 1) hx hb dM_camera_33 (by decide) ?_
      refine lv_goto (tgt := 38) hx hb dM_camera_34 (by decide) ?_
      exact W.zret (v := nI 1) (ty := .boolean) hx hb hr (by decide) (fun t ht hW => ⟨⟨_, M_2, rfl, by rcases hl9 with ⟨-, h8, h7⟩ | ⟨h8, -, -⟩; exact Or.inl ⟨rfl, ⟨hq9, h8⟩, by rw [nI_clamp (by omega)]; exact (hC.thr eM_1).cam hA (by omega) h7⟩; exact absurd h8 c_30, by show va_P _ _ _ t.heap; rw [ht]; exact hP⟩, hS.F ht⟩) hS.2.2 dM_camera_38
  · skip
    refine lv_iload_n hx hb dM_camera_9 rfl (lv_at hl 1 rfl) ?_
    refine lv_iconst (v := nI 1) hx hb dM_camera_10 (by decide) ?_
    refine lv_icmp_ne (tgt := 37) hx hb dM_camera_11 (by decide) (fun c_11 => ?_) (fun c_11 => ?_)
    · skip
      refine lv_iconst (v := nI 0) hx hb dM_camera_37 (by decide) ?_
      exact W.zret (v := nI 0) (ty := .boolean) hx hb hr (by decide) (fun t ht hW => ⟨⟨_, M_1, rfl, Or.inr ⟨rfl, fun h9 => by obtain ⟨u, hu, rfl⟩ := rng_le h9.1.1 h9.1.2 (by decide); rcases (show u = 0 ∨ u = 1 by omega) with rfl | rfl; exact c_6 rfl; exact c_11 rfl, hC.thr eM_1⟩, by show va_P _ _ _ t.heap; rw [ht]; exact hP⟩, hS.F ht⟩) hS.2.2 dM_camera_38
    · skip
      obtain ⟨u, hu, rfl⟩ : ∃ u, u < 2 ∧ q = nI u := ⟨1, by decide, c_11⟩
      have hq9 : 0 ≤ nI u ∧ nI u ≤ nI 1 := ⟨nI_pos' (by omega), nI_le (by omega) (by decide)⟩
      refine lv_aload_n hx hb dM_camera_14 rfl (lv_at hl 0 rfl) ?_
      refine lv_sipush (v := nI 432) hx hb dM_camera_15 (by decide) ?_
      refine lv_iconst (v := nI 3) hx hb dM_camera_18 (by decide) ?_
      refine lv_iload_n hx hb dM_camera_19 rfl (lv_at hl 1 rfl) ?_
      refine ln_imul hx hb dM_camera_20 ?_
      refine ln_iadd hx hb dM_camera_21 ?_
      refine lv_iload_n hx hb dM_camera_22 rfl (lv_at hl 1 rfl) ?_
      refine lv_iload_n hx hb dM_camera_23 rfl (lv_at hl 2 rfl) ?_
      refine lv_iload_n hx hb dM_camera_24 rfl (lv_at hl 3 rfl) ?_
      refine lv_iload hx hb dM_camera_25 (lv_at hl 4 rfl) ?_
      refine bc_calli (bc_runV (own := RM) (C := RM) (As := [.int (nI (432 + (3 * u))), .int (nI u), .int x, .int y, .int z]) (rest := []) hx hb (hml.trans hl.1.symm) hown hts (kM_lays l D cs ad hI M_1 H.size (432 + 3 * u) (by omega) (nI u) x y z) w_384 w_381 w_383 ws_sel_M_lays w_4 ⟨rfl, hd_M_lays⟩ rfl ⟨rfl, rfl⟩ ⟨Nat.le_of_ble_eq_true rfl, Nat.le_of_ble_eq_true rfl⟩ (fun _ _ _ _ h => h.calling) (bc_recv (r := (RM, TM, 14)) hE hP 0 (by decide) rfl rfl) (fun U hU hW => ⟨by rw [hU], by rw [hU]; exact hP, hE.warm hW⟩) rfl (Nat.le_of_ble_eq_true rfl) dM_camera_27 ⟨Nat.le_of_ble_eq_true rfl, Nat.le_of_ble_eq_true rfl⟩) hS (fun r_27 M_3 H locs hr_27 hP hS => ?_)
      have hl9 := hr_27
      refine lv_if_eq (tgt := 37) hx hb dM_camera_30 (by decide) (fun c_30 => ?_) (fun c_30 => ?_)
      · skip
        refine lv_iconst (v := nI 0) hx hb dM_camera_37 (by decide) ?_
        exact W.zret (v := nI 0) (ty := .boolean) hx hb hr (by decide) (fun t ht hW => ⟨⟨_, M_3, rfl, by rcases hl9 with ⟨h8, -, -⟩ | ⟨-, h8, h7⟩; exact absurd (h8.symm.trans c_30) (by decide); exact Or.inr ⟨rfl, fun h9 => h8 h9.2, by rw [h7]; exact hC.thr eM_1⟩, by show va_P _ _ _ t.heap; rw [ht]; exact hP⟩, hS.F ht⟩) hS.2.2 dM_camera_38
      · skip
        refine lv_iconst (v := nI 1) hx hb dM_camera_33 (by decide) ?_
        refine lv_goto (tgt := 38) hx hb dM_camera_34 (by decide) ?_
        exact W.zret (v := nI 1) (ty := .boolean) hx hb hr (by decide) (fun t ht hW => ⟨⟨_, M_3, rfl, by rcases hl9 with ⟨-, h8, h7⟩ | ⟨h8, -, -⟩; exact Or.inl ⟨rfl, ⟨hq9, h8⟩, by rw [nI_clamp (by omega)]; exact (hC.thr eM_1).cam hA (by omega) h7⟩; exact absurd h8 c_30, by show va_P _ _ _ t.heap; rw [ht]; exact hP⟩, hS.F ht⟩) hS.2.2 dM_camera_38

set_option maxHeartbeats 4000000 in
set_option maxRecDepth 100000 in
theorem kM_add (l : Launch) (D : va_G) (cs : Nat → ClassId) (ad : Nat → Nat) (hI : bw_I ad 13) (M : Nat → mRow) (sz : Nat) (A : Ab) (hA : aOk A) (hC : Ref A M) (q k : Int32)  : Met l yM_add (wc yM_add cM_add 4 (some .int)) ({ frames := 0, cells := 0, slots := 0, locals := 0 } : Room) (va_Pc [.ref (ad 0), .int q, .int k] (mP D cs ad M sz)) (bQi D ad 13 (mc_cell cs ad) sz (fun r M1 => (r = nI (aN A) ∧ pAdd A q k ∧ Ref (addA A q k) M1) ∨ (r = (-1) ∧ ¬ pAdd A q k ∧ Ref A M1))) 0 0 (bw_A ad 13 sz) := by
  refine Met.ofW (cc := cM_add) (maxL := 4) (ret := (some .int)) (by decide +kernel) rfl ?_
  intro p e s m args below meth c s₁ B hml hv
  obtain ⟨rfl, hsz, hP, hE⟩ := hv
  subst hsz
  have hx := B.exec
  have hb := B.bytes
  have hr := B.returns
  have hts : ∀ w9 ∈ ws_all, w9.before ([.ref (ad 0), .int q, .int k] : List Value).toArray s = true := fun w9 h => atoms_spec (ws := (wc yM_add cM_add 4 (some .int))) B.pre w9 (List.mem_cons_of_mem _ h)
  have hown : s.vm.findClass RM = some m.cls := findClass_of_methodNamed B.named
  have hlocks := B.notSynchronized
  have hS : va_S (bw_A ad 13 s.heap.size) s.heap s.heap [] := va_S.rf
  have hl := lv_entry ([.ref (ad 0), .int q, .int k]) (n := 4) (Nat.le_of_ble_eq_true rfl)
  rw [lg_entry_eq]
  generalize (lg_sl ([.ref (ad 0), .int q, .int k]) ++ List.replicate (4 - (lg_sl ([.ref (ad 0), .int q, .int k])).length) Slot.unset).toArray = ls at hl ⊢
  have hl : lv_has ls 4 [(0, .ref (ad 0)), (1, .int q), (2, .int k)] := hl
  have hN : aN A ≤ 48 := hA.1
  obtain ⟨hn, hrow, heye⟩ := id hC
  have hN1 : ∀ M1 : Nat → mRow, M1 = va_up M 0 (upd (M 0).1 0 (nI 0), (M 0).2) → (M1 0).1 1 = nI (aN A) := fun M1 e => by rw [e, va_up_self]; exact (m_un (by decide)).trans hn
  refine lv_aload_n hx hb dM_add_0 rfl (lv_at hl 0 rfl) ?_
  refine lv_iconst (v := nI 0) hx hb dM_add_1 (by decide) ?_
  refine bw_put (own := RM) (ci := 2) (C := RM) (T := TM) (N := 14) (v := .int (nI 0)) (ty := .int) hx hb hts inM tyM tyM_ok nmM hown hE hI hP hS 0 (by decide) rfl rfl 0 (by decide) w_316 rfl rfl ((upd (M 0).1 0 (nI 0), (M 0).2)) rfl (by decide +kernel) rfl rfl (Nat.le_of_ble_eq_true rfl) dM_add_2 (fun M_1 H locs eM_1 hP hS => ?_)
  refine lv_aload_n hx hb dM_add_5 rfl (lv_at hl 0 rfl) ?_
  refine bw_get (own := RM) (ci := 2) (C := RM) (T := TM) (N := 14) (v := .int ((M_1 0).1 1)) hx hb hts inM hown hE hP 0 (by decide) rfl rfl 1 (by decide) w_317 rfl rfl dM_add_6 ?_
  refine ln_asi (nI (aN A)) (by exact hN1 _ eM_1) ?_
  refine lv_bipush (v := nI 48) hx hb dM_add_9 (by decide) ?_
  refine ln_icmp_eq (tgt := 36) hx hb dM_add_11 (by decide) (by omega) (by omega) (fun c_11 => ?_) (fun c_11 => ?_)
  · skip
    refine lv_iconst (v := (-1)) hx hb dM_add_36 (by decide) ?_
    exact W.iret (v := (-1)) hx hb hr (fun t ht hW => ⟨⟨_, M_1, rfl, Or.inr ⟨rfl, fun h9 => by have := h9.1; omega, hC.thr eM_1⟩, by show va_P _ _ _ t.heap; rw [ht]; exact hP⟩, hS.F ht⟩) hS.2.2 dM_add_37
  · skip
    refine lv_iload_n hx hb dM_add_14 rfl (lv_at hl 1 rfl) ?_
    refine lv_iconst (v := (-1)) hx hb dM_add_15 (by decide) ?_
    refine lv_icmp_lt (tgt := 36) hx hb dM_add_16 (by decide) (fun c_16 => ?_) (fun c_16 => ?_)
    · skip
      refine lv_iconst (v := (-1)) hx hb dM_add_36 (by decide) ?_
      exact W.iret (v := (-1)) hx hb hr (fun t ht hW => ⟨⟨_, M_1, rfl, Or.inr ⟨rfl, fun h9 => by have := h9.2.1.1; simp only [Int32.lt_iff_toInt_lt, Int32.le_iff_toInt_le, nI, Int32.reduceOfNat, Int32.reduceToInt] at c_16 this; omega, hC.thr eM_1⟩, by show va_P _ _ _ t.heap; rw [ht]; exact hP⟩, hS.F ht⟩) hS.2.2 dM_add_37
    · skip
      refine lv_iload_n hx hb dM_add_19 rfl (lv_at hl 1 rfl) ?_
      refine lv_aload_n hx hb dM_add_20 rfl (lv_at hl 0 rfl) ?_
      refine bw_get (own := RM) (ci := 2) (C := RM) (T := TM) (N := 14) (v := .int ((M_1 0).1 1)) hx hb hts inM hown hE hP 0 (by decide) rfl rfl 1 (by decide) w_317 rfl rfl dM_add_21 ?_
      refine ln_asi (nI (aN A)) (by exact hN1 _ eM_1) ?_
      refine lv_icmp_ge (tgt := 36) hx hb dM_add_24 (by decide) (fun c_24 => ?_) (fun c_24 => ?_)
      · skip
        refine lv_iconst (v := (-1)) hx hb dM_add_36 (by decide) ?_
        exact W.iret (v := (-1)) hx hb hr (fun t ht hW => ⟨⟨_, M_1, rfl, Or.inr ⟨rfl, fun h9 => by have := h9.2.1.2; simp only [Int32.lt_iff_toInt_lt, Int32.le_iff_toInt_le, Int32.reduceOfNat, Int32.reduceToInt] at c_24 this; omega, hC.thr eM_1⟩, by show va_P _ _ _ t.heap; rw [ht]; exact hP⟩, hS.F ht⟩) hS.2.2 dM_add_37
      · skip
        refine lv_iload_n hx hb dM_add_27 rfl (lv_at hl 2 rfl) ?_
        refine lv_if_lt (tgt := 36) hx hb dM_add_28 (by decide) (fun c_28 => ?_) (fun c_28 => ?_)
        · skip
          refine lv_iconst (v := (-1)) hx hb dM_add_36 (by decide) ?_
          exact W.iret (v := (-1)) hx hb hr (fun t ht hW => ⟨⟨_, M_1, rfl, Or.inr ⟨rfl, fun h9 => by have := h9.2.2.1; simp only [Int32.lt_iff_toInt_lt, Int32.le_iff_toInt_le, nI, Int32.reduceOfNat, Int32.reduceToInt] at c_28 this; omega, hC.thr eM_1⟩, by show va_P _ _ _ t.heap; rw [ht]; exact hP⟩, hS.F ht⟩) hS.2.2 dM_add_37
        · skip
          refine lv_iload_n hx hb dM_add_31 rfl (lv_at hl 2 rfl) ?_
          refine lv_iconst (v := nI 2) hx hb dM_add_32 (by decide) ?_
          refine lv_icmp_le (tgt := 38) hx hb dM_add_33 (by decide) (fun c_33 => ?_) (fun c_33 => ?_)
          · skip
            have hp9 : pAdd A q k := ⟨by omega, by simp only [Int32.lt_iff_toInt_lt, Int32.le_iff_toInt_le, Int32.reduceOfNat, Int32.reduceToInt] at c_16 c_24 ⊢; omega, by simp only [Int32.lt_iff_toInt_lt, Int32.le_iff_toInt_le, nI, Int32.reduceOfNat, Int32.reduceToInt] at c_28 c_33 ⊢; omega⟩
            have hN9 : aN A < 48 := hp9.1
            refine lv_aload_n hx hb dM_add_38 rfl (lv_at hl 0 rfl) ?_
            refine bw_get (own := RM) (ci := 2) (C := RM) (T := TM) (N := 14) (v := .ref (ad 1)) hx hb hts inM hown hE hP 0 (by decide) rfl rfl 2 (by decide) w_318 rfl rfl dM_add_39 ?_
            refine lv_aload_n hx hb dM_add_42 rfl (lv_at hl 0 rfl) ?_
            refine bw_get (own := RM) (ci := 2) (C := RM) (T := TM) (N := 14) (v := .int ((M_1 0).1 1)) hx hb hts inM hown hE hP 0 (by decide) rfl rfl 1 (by decide) w_317 rfl rfl dM_add_43 ?_
            refine ln_asi (nI (aN A)) (by exact hN1 _ eM_1) ?_
            refine lv_iload_n hx hb dM_add_46 rfl (lv_at hl 1 rfl) ?_
            refine ln_iast (L := 48) hx hb hE hI hP hS 1 0 (by decide) (rfl) rfl (by omega) (by decide) ((upd (M_1 1).1 (aN A) q, (M_1 1).2)) (rfl) dM_add_47 (fun M_2 H locs eM_2 hP hS => ?_)
            refine lv_aload_n hx hb dM_add_48 rfl (lv_at hl 0 rfl) ?_
            refine bw_get (own := RM) (ci := 2) (C := RM) (T := TM) (N := 14) (v := .ref (ad 2)) hx hb hts inM hown hE hP 0 (by decide) rfl rfl 3 (by decide) w_319 rfl rfl dM_add_49 ?_
            refine lv_aload_n hx hb dM_add_52 rfl (lv_at hl 0 rfl) ?_
            refine bw_get (own := RM) (ci := 2) (C := RM) (T := TM) (N := 14) (v := .int ((M_2 0).1 1)) hx hb hts inM hown hE hP 0 (by decide) rfl rfl 1 (by decide) w_317 rfl rfl dM_add_53 ?_
            refine ln_asi (nI (aN A)) (by rw [eM_2, va_up_ne _ _ (by decide)]; exact hN1 _ eM_1) ?_
            refine lv_iload_n hx hb dM_add_56 rfl (lv_at hl 2 rfl) ?_
            refine ln_iast (L := 48) hx hb hE hI hP hS 2 0 (by decide) (rfl) rfl (by omega) (by decide) ((upd (M_2 2).1 (aN A) k, (M_2 2).2)) (rfl) dM_add_57 (fun M_3 H locs eM_3 hP hS => ?_)
            refine lv_aload_n hx hb dM_add_58 rfl (lv_at hl 0 rfl) ?_
            refine bw_get (own := RM) (ci := 2) (C := RM) (T := TM) (N := 14) (v := .ref (ad 3)) hx hb hts inM hown hE hP 0 (by decide) rfl rfl 4 (by decide) w_320 rfl rfl dM_add_59 ?_
            refine lv_aload_n hx hb dM_add_62 rfl (lv_at hl 0 rfl) ?_
            refine bw_get (own := RM) (ci := 2) (C := RM) (T := TM) (N := 14) (v := .int ((M_3 0).1 1)) hx hb hts inM hown hE hP 0 (by decide) rfl rfl 1 (by decide) w_317 rfl rfl dM_add_63 ?_
            refine ln_asi (nI (aN A)) (by rw [eM_3, va_up_ne _ _ (by decide), eM_2, va_up_ne _ _ (by decide)]; exact hN1 _ eM_1) ?_
            refine lv_iconst (v := nI 0) hx hb dM_add_66 (by decide) ?_
            refine ln_zast (L := 48) hx hb hE hI hP hS 3 1 (by decide) (rfl) rfl (by omega) (by decide) ((upd (M_3 3).1 (aN A) (vp_nar .boolean (nI 0)), (M_3 3).2)) (rfl) dM_add_67 (fun M_4 H locs eM_4 hP hS => ?_)
            refine lv_iconst (v := nI 0) hx hb dM_add_68 (by decide) ?_
            refine lv_istore_n (lv' := [(3, .int (nI 0)), (0, .ref (ad 0)), (1, .int q), (2, .int k)]) hx hb dM_add_69 rfl hl (by decide) rfl (fun ls hl => ?_)
            have loop : ∀ kf : Nat, (∀ (i : Nat)  (M1 : Nat → mRow) (H : Heap) (locs : List Loc) (ls : Array Slot), i ≤ 9 → nInv M_4 M1 (aN A) i → 9 - i < kf → va_P D cls3 (bw ad 13 (fun j => mc_cell cs ad j (M1 j))) H → va_S (bw_A ad 13 s.heap.size) s.heap H locs → lv_has ls 4 [(3, .int (nI i)), (0, .ref (ad 0)), (1, .int q), (2, .int k)] → W p l e (headSpec (wc yM_add cM_add 4 (some .int)) ({ frames := 0, cells := 0, slots := 0, locals := 0 } : Room)).room s m ([.ref (ad 0), .int q, .int k] : List Value).toArray below meth c H locs 0 0 (MQ below (bQi D ad 13 (mc_cell cs ad) s.heap.size (fun r M1 => (r = nI (aN A) ∧ pAdd A q k ∧ Ref (addA A q k) M1) ∨ (r = (-1) ∧ ¬ pAdd A q k ∧ Ref A M1))) ([.ref (ad 0), .int q, .int k] : List Value).toArray s 0 0 (bw_A ad 13 s.heap.size)) (F0 m 70 ls [])) := by
              intro kf
              induction kf with
              | zero => exact by intros; omega
              | succ kf ih =>
                intro i  M1 H locs ls hi hinv hmu hP hS hl
                refine lv_iload_n hx hb dM_add_70 rfl (lv_at hl 0 rfl) ?_
                refine lv_bipush (v := nI 9) hx hb dM_add_71 (by decide) ?_
                refine ln_icmp_ge (tgt := 108) hx hb dM_add_73 (by decide) (by omega) (by omega) (fun c_73 => ?_) (fun c_73 => ?_)
                · skip
                  refine lv_aload_n hx hb dM_add_108 rfl (lv_at hl 1 rfl) ?_
                  refine lv_dup hx hb dM_add_109 rfl ?_
                  refine bw_get (own := RM) (ci := 2) (C := RM) (T := TM) (N := 14) (v := .int ((M1 0).1 1)) hx hb hts inM hown hE hP 0 (by decide) rfl rfl 1 (by decide) w_317 rfl rfl dM_add_110 ?_
                  refine ln_asi (nI (aN A)) (by rw [hinv.1 0 (by decide), eM_4, va_up_ne _ _ (by decide), eM_3, va_up_ne _ _ (by decide), eM_2, va_up_ne _ _ (by decide)]; exact hN1 _ eM_1) ?_
                  refine lv_iconst (v := nI 1) hx hb dM_add_113 (by decide) ?_
                  refine ln_iadd hx hb dM_add_114 ?_
                  refine bw_put (own := RM) (ci := 2) (C := RM) (T := TM) (N := 14) (v := .int (nI ((aN A) + 1))) (ty := .int) hx hb hts inM tyM tyM_ok nmM hown hE hI hP hS 0 (by decide) rfl rfl 1 (by decide) w_317 rfl rfl ((upd (M1 0).1 1 (nI ((aN A) + 1)), (M1 0).2)) rfl (by decide +kernel) rfl rfl (Nat.le_of_ble_eq_true rfl) dM_add_115 (fun M_5 H locs eM_5 hP hS => ?_)
                  refine lv_aload_n hx hb dM_add_118 rfl (lv_at hl 1 rfl) ?_
                  refine bw_get (own := RM) (ci := 2) (C := RM) (T := TM) (N := 14) (v := .int ((M_5 0).1 1)) hx hb hts inM hown hE hP 0 (by decide) rfl rfl 1 (by decide) w_317 rfl rfl dM_add_119 ?_
                  refine ln_asi (nI (aN A + 1)) (by rw [eM_5, va_up_self]; exact m_us) ?_
                  refine lv_iconst (v := nI 1) hx hb dM_add_122 (by decide) ?_
                  refine ln_isub hx hb dM_add_123 (by omega) ?_
                  exact W.iret (v := nI ((aN A + 1) - 1)) hx hb hr (fun t ht hW => ⟨⟨_, M_5, rfl, Or.inl ⟨by rw [Nat.add_sub_cancel], hp9, (hC.thr eM_1).add hN9 eM_2 eM_3 eM_4 (show nInv M_4 M1 (aN A) 9 by have hi9 : i = 9 := (by omega); rw [hi9] at hinv; exact hinv) eM_5⟩, by show va_P _ _ _ t.heap; rw [ht]; exact hP⟩, hS.F ht⟩) hS.2.2 dM_add_124
                · skip
                  refine lv_aload_n hx hb dM_add_76 rfl (lv_at hl 1 rfl) ?_
                  refine bw_get (own := RM) (ci := 2) (C := RM) (T := TM) (N := 14) (v := .ref (ad 4)) hx hb hts inM hown hE hP 0 (by decide) rfl rfl 5 (by decide) w_321 rfl rfl dM_add_77 ?_
                  refine lv_bipush (v := nI 9) hx hb dM_add_80 (by decide) ?_
                  refine lv_aload_n hx hb dM_add_82 rfl (lv_at hl 1 rfl) ?_
                  refine bw_get (own := RM) (ci := 2) (C := RM) (T := TM) (N := 14) (v := .int ((M1 0).1 1)) hx hb hts inM hown hE hP 0 (by decide) rfl rfl 1 (by decide) w_317 rfl rfl dM_add_83 ?_
                  refine ln_asi (nI (aN A)) (by rw [hinv.1 0 (by decide), eM_4, va_up_ne _ _ (by decide), eM_3, va_up_ne _ _ (by decide), eM_2, va_up_ne _ _ (by decide)]; exact hN1 _ eM_1) ?_
                  refine ln_imul hx hb dM_add_86 ?_
                  refine lv_iload_n hx hb dM_add_87 rfl (lv_at hl 0 rfl) ?_
                  refine ln_iadd hx hb dM_add_88 ?_
                  refine lv_iload_n hx hb dM_add_89 rfl (lv_at hl 0 rfl) ?_
                  refine lv_bipush (v := nI 6) hx hb dM_add_90 (by decide) ?_
                  refine ln_icmp_ge (tgt := 99) hx hb dM_add_92 (by decide) (by omega) (by omega) (fun c_92 => ?_) (fun c_92 => ?_)
                  · skip
                    refine lv_ldc (own := RM) (index := 55) (v := 65536) hx hb hown (hts _ w_368) dM_add_99 ?_
                    refine ln_asi (if i < 6 then 0 else 65536) (by rw [if_neg (by omega)]) ?_
                    refine ln_iast (L := 441) hx hb hE hI hP hS 4 0 (by decide) (rfl) rfl (by omega) (by decide) ((upd (M1 4).1 ((9 * (aN A)) + i) (if i < 6 then 0 else 65536), (M1 4).2)) (rfl) dM_add_101 (fun M_6 H locs eM_6 hP hS => ?_)
                    refine lv_iinc (v := nI (i + 1)) (lv' := [(3, .int (nI (i + 1))), (0, .ref (ad 0)), (1, .int q), (2, .int k)]) hx hb dM_add_102 hl (k := 0) rfl (nI_add i 1) (by decide) rfl (fun ls hl => ?_)
                    refine lv_goto (tgt := 70) hx hb dM_add_105 (by decide) ?_
                    exact ih (i + 1)  M_6 H locs ls (by omega) (hinv.step eM_6 rfl) (by omega) hP hS (lv_sub hl [0, 1, 2, 3] rfl)
                  · skip
                    refine lv_iconst (v := nI 0) hx hb dM_add_95 (by decide) ?_
                    refine lv_goto (tgt := 101) hx hb dM_add_96 (by decide) ?_
                    refine ln_asi (if i < 6 then 0 else 65536) (by rw [if_pos c_92]; rfl) ?_
                    refine ln_iast (L := 441) hx hb hE hI hP hS 4 0 (by decide) (rfl) rfl (by omega) (by decide) ((upd (M1 4).1 ((9 * (aN A)) + i) (if i < 6 then 0 else 65536), (M1 4).2)) (rfl) dM_add_101 (fun M_7 H locs eM_7 hP hS => ?_)
                    refine lv_iinc (v := nI (i + 1)) (lv' := [(3, .int (nI (i + 1))), (0, .ref (ad 0)), (1, .int q), (2, .int k)]) hx hb dM_add_102 hl (k := 0) rfl (nI_add i 1) (by decide) rfl (fun ls hl => ?_)
                    refine lv_goto (tgt := 70) hx hb dM_add_105 (by decide) ?_
                    exact ih (i + 1)  M_7 H locs ls (by omega) (hinv.step eM_7 rfl) (by omega) hP hS (lv_sub hl [0, 1, 2, 3] rfl)
            exact (loop 100000) 0  M_4 H locs ls (by omega) (⟨fun _ _ => rfl, fun _ _ => rfl, fun j hj => by omega⟩) (by omega) hP hS (lv_sub hl [0, 1, 2, 3] rfl)
          · skip
            refine lv_iconst (v := (-1)) hx hb dM_add_36 (by decide) ?_
            exact W.iret (v := (-1)) hx hb hr (fun t ht hW => ⟨⟨_, M_1, rfl, Or.inr ⟨rfl, fun h9 => by have := h9.2.2.2; simp only [Int32.lt_iff_toInt_lt, Int32.le_iff_toInt_le, nI, Int32.reduceOfNat, Int32.reduceToInt] at c_33 this; omega, hC.thr eM_1⟩, by show va_P _ _ _ t.heap; rw [ht]; exact hP⟩, hS.F ht⟩) hS.2.2 dM_add_37
