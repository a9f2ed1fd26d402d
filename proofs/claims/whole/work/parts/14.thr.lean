/-! THE METHODS THAT THROW (the class): world, model, about -/
def nse : String := "java/util/NoSuchElementException"
def nseUp : List String := ["java/lang/RuntimeException", "java/lang/Exception"]
def thrW : List Cond := [.castable nse nse, .declares (Bundle.init0 "java/lang/RuntimeException"), .declares (Bundle.init0 "java/lang/Exception"), .declares (Bundle.init0 "java/lang/Throwable")]
def thrOk (U : State) : Prop := ∀ w ∈ thrW, va_Nw w U
theorem thrOk.warm {s U : State} (hW : s.WarmedH U.vm) (h : thrOk s) : thrOk U := by
  intro w hw
  have h1 := h w hw
  simp only [thrW, List.mem_cons, List.not_mem_nil, or_false] at hw
  rcases hw with rfl | rfl | rfl | rfl
  · exact va_Nw.warmC hW h1
  · exact va_Nw.warmD hW h1
  · exact va_Nw.warmD hW h1
  · exact va_Nw.warmD hW h1
theorem thrOk.same {s U : State} (h : s.vm = U.vm) (hn : thrOk s) : thrOk U := by
  intro w hw
  have h1 := hn w hw
  simp only [thrW, List.mem_cons, List.not_mem_nil, or_false] at hw
  rcases hw with rfl | rfl | rfl | rfl <;> exact va_Nw.same rfl h h1
theorem at0_good : ∀ w ∈ (vx_at0 RS 95 nse nseUp).filter goodWord, w ∈ ws_all := fun w h => ws_in ((by decide +kernel : ∀ w ∈ (vx_at0 RS 95 nse nseUp).filter goodWord, w ∈ lw_tbl) w h) (List.mem_filter.mp h).2
theorem at0_rest : ∀ w ∈ (vx_at0 RS 95 nse nseUp).filter (fun w => !goodWord w), w ∈ thrW := by decide +kernel
theorem at0_ot : ∀ w ∈ Cond.classLink RS 93 nse :: Cond.initialized nse :: vx_at0 RS 95 nse nseUp, vx_ot w = true := by decide +kernel
theorem thrW_ot : ∀ w ∈ thrW, w.onTables = true := by decide +kernel
theorem at0_all {args : Array Value} {s : State} (hts : ∀ w ∈ ws_all, w.before args s = true) (ht : thrOk s) : ∀ w ∈ vx_at0 RS 95 nse nseUp, w.before args s = true :=
  vx_hat (fun w h => hts w (at0_good w h)) at0_rest (fun w h => va_Nw.use (thrW_ot w h) (ht w h))
/-- Throwable's two statics, which nobody writes -/
def sZ (A : Nat → Prop) (U : State) : Prop := vx_Zq Bundle.tN "UNASSIGNED_STACK" Bundle.steD A U U.heap ∧ vx_Zq Bundle.tN "SUPPRESSED_SENTINEL" Bundle.listD A U U.heap
def xP (D : va_G) (cs : Nat → ClassId) (ad : Nat → Nat) (M : Nat → Nat → Int32) (sz : Nat) (U : State) : Prop := sP D cs ad M sz U ∧ thrOk U ∧ sZ (bw_A ad 162 sz) U
theorem xP.calling {D : va_G} {cs : Nat → ClassId} {ad : Nat → Nat} {M : Nat → Nat → Int32} {sz : Nat} {U : State} {g : JFrame} {mk : MethodId} {a : Array Value} (h : xP D cs ad M sz U) : xP D cs ad M sz (U.calling g mk a) :=
  ⟨bPre.calling h.1, thrOk.same (s := U) rfl h.2.1, vx_Zq.moved (u := U) (U := U.calling g mk a) (Vm.Alike.refl U.vm) h.2.2.1, vx_Zq.moved (u := U) (U := U.calling g mk a) (Vm.Alike.refl U.vm) h.2.2.2⟩
def pCell (A : Ab) (n i j : Int32) : Prop := pNode A n ∧ (0 ≤ i ∧ i < 3) ∧ (0 ≤ j ∧ j < 4)
def pAbt (A : Ab) (n w : Int32) : Prop := pNode A n ∧ (0 ≤ w ∧ w < nI 12)
def wA (A : Ab) (n : Nat) : Nat → Int32 := jworld (aP A) (fun n => jlocal (aU A n)) n
def mA (A : Ab) (n i j : Nat) : Int32 := jprod (jview (aE A)) (wA A n) i j
def abA (A : Ab) (n u : Nat) : Int32 := if u = 0 then aP A n else if u = 1 then aK A n else if u = 2 then (if aH A n = 0 then nI 0 else nI 1) else aU A n (u - 3)
/-- what a throw leaves -/
abbrev xX (D : va_G) (cs : Nat → ClassId) (ad : Nat → Nat) (sz : Nat) (px : (Nat → Nat → Int32) → Prop) : String → State → State → Prop := vx_X px (fun E M1 t => E = nse ∧ va_P D cls3 (bw ad 162 (fun k => sc_cell cs ad k (M1 k))) t.heap) (bw_A ad 162 sz)
theorem xX_of {D : va_G} {cs : Nat → ClassId} {ad : Nat → Nat} {s t : State} {px : (Nat → Nat → Int32) → Prop} {M : Nat → Nat → Int32} (hp : px M) (hP : va_P D cls3 (bw ad 162 (fun k => sc_cell cs ad k (M k))) s.heap) (hz : s.heap.size ≤ t.heap.size) (hq : ∀ q : Nat, q < s.heap.size → t.heap[q]? = s.heap[q]?) : xX D cs ad s.heap.size px nse s t :=
  ⟨M, hp, ⟨rfl, hP.kept (fun k q hk => hq q.1 ((hP k q hk).lt))⟩, hz, fun q h1 _ => hq q h1⟩
theorem Cls.ready {A : Ab} {M M1 : Nat → Nat → Int32} {r u : Nat} (h : Cls A M) (hr : r ≤ aN A) (hu : u ≤ aN A) (h1 : (∀ q, 0 < q → (q < 103 ∨ 151 ≤ q) → M1 q = M q) ∧ (∀ t, t ≠ 7 → M1 0 t = M 0 t) ∧ M1 0 7 = nI (max r u) ∧ wOk M1 (max r u)) : Cls A M1 ∧ ∀ n, n < u → ∀ t, t < 12 → M1 (103 + n) t = wA A n t := by
  have hN := h.1.1
  obtain ⟨a1, a2, a3, a4⟩ := h1
  refine ⟨h.cache (fun q h0 _ _ _ h4 => a1 q h0 h4) a2 ⟨max r u, by omega, a3, a4⟩, fun n hn t ht => ?_⟩
  rw [a4 n (by omega) t ht]
  refine jworld_congr h.1.2.1 (by omega) (fun k hk => ?_) (fun k hk t ht => ?_) n (by omega) t ht
  · rw [a1 1 (by decide) (by decide)]; exact (h.2.2.1 k hk).1
  · show M1 (54 + k) t = jlocal (aU A k) t
    rw [a1 (54 + k) (by omega) (by omega)]; exact (h.2.2.1 k hk).2.2.2.2 t ht

set_option maxHeartbeats 4000000 in
set_option maxRecDepth 100000 in
theorem kS_world (l : Launch) (hl0 : l.stackTraces = false) (D : va_G) (cs : Nat → ClassId) (ad : Nat → Nat) (hI : bw_I ad 162) (M : Nat → Nat → Int32) (sz : Nat) (A : Ab) (hC : Cls A M) (n i j : Int32) : vx_Met l yS_world (wc yS_world cS_world 4 (some .int)) ({ frames := 6, cells := 1, slots := 6, locals := 111 } : Room) (va_Pc [.ref (ad 0), .int n, .int i, .int j] (xP D cs ad M sz)) (bQi D ad 162 (sc_cell cs ad) sz (fun r M1 => r = wA A n.toNatClampNeg (4 * i.toNatClampNeg + j.toNatClampNeg) ∧ pCell A n i j ∧ Cls A M1)) (xX D cs ad sz (fun M1 => ¬ pCell A n i j ∧ Cls A M1)) 1 6 (bw_A ad 162 sz) := by
  refine vx_ofW (cc := cS_world) (maxL := 4) (ret := (some .int)) (by decide +kernel) rfl ?_
  intro p e s m args below meth c s₁ B hml hexT hv
  obtain ⟨rfl, ⟨hsz, hP, hE⟩, hthr, hsZ⟩ := hv
  subst hsz
  have hx := B.exec
  have hb := B.bytes
  have hr := B.returns
  have hts : ∀ w9 ∈ ws_all, w9.before ([.ref (ad 0), .int n, .int i, .int j] : List Value).toArray s = true := fun w9 h => atoms_spec (ws := (wc yS_world cS_world 4 (some .int))) B.pre w9 (List.mem_cons_of_mem _ h)
  have hown : s.vm.findClass RS = some m.cls := findClass_of_methodNamed B.named
  have hlocks := B.notSynchronized
  have hS : va_S (bw_A ad 162 s.heap.size) s.heap s.heap [] := va_S.rf
  have hl := lv_entry ([.ref (ad 0), .int n, .int i, .int j]) (n := 4) (Nat.le_of_ble_eq_true rfl)
  rw [lg_entry_eq]
  generalize (lg_sl ([.ref (ad 0), .int n, .int i, .int j]) ++ List.replicate (4 - (lg_sl ([.ref (ad 0), .int n, .int i, .int j])).length) Slot.unset).toArray = ls at hl ⊢
  have hl : lv_has ls 4 [(0, .ref (ad 0)), (1, .int n), (2, .int i), (3, .int j)] := hl
  obtain ⟨hA, hn, hrow, heye, hview, hz, rr, hrr, hr7, hw⟩ := id hC
  have hN : aN A ≤ 48 := hA.1
  refine lv_aload_n hx hb dS_world_0 rfl (lv_at hl 0 rfl) ?_
  refine lv_iload_n hx hb dS_world_1 rfl (lv_at hl 1 rfl) ?_
  refine vp_callSi (va_Run.run (bc_runV (own := RS) (C := RS) (As := [.int n]) (rest := []) hx hb (hml.trans hl.1.symm) hown hts (kS_isNode l D cs ad hI M s.heap.size n) w_157 w_154 w_156 ws_sel_S_isNode w_1 ⟨rfl, hd_S_isNode⟩ rfl ⟨rfl, rfl⟩ ⟨Nat.le_of_ble_eq_true rfl, Nat.le_of_ble_eq_true rfl⟩ (fun _ _ _ _ h => h.calling) (bc_recv (r := (RS, TS, 14)) hE hP 0 (by decide) rfl rfl) (fun U hU hW => ⟨by rw [hU], by rw [hU]; exact hP, hE.warm hW⟩) rfl (Nat.le_of_ble_eq_true rfl) dS_world_2 ⟨Nat.le_of_ble_eq_true rfl, Nat.le_of_ble_eq_true rfl⟩)) (fun r_2 hr_2 => ?_)
  rw [hn] at hr_2
  refine lv_if_eq (tgt := 16) hx hb dS_world_5 (by decide) (fun c_5 => ?_) (fun c_5 => ?_)
  · skip
    exact vx_throw0 (own := RS) (cls := nse) (names := nseUp) (ik := 93) (ic := 95) (A := bw_A ad 162 s.heap.size) hx hb hl0 hown (by decide +kernel) (by decide +kernel) (hts _ w_235) (hts _ w_8) (at0_all hts hthr) at0_ot hsZ.1 hsZ.2 hS (hl.1.trans hml.symm) dS_world_16 dS_world_19 dS_world_20 dS_world_23 (fun x h => (hexT x h).elim) (by decide) (by decide) (by decide) (by decide) hlocks (fun t _ hz9 hq9 => xX_of (⟨fun h9 => hr_2.f c_5 h9.1, hC⟩) hP hz9 hq9) hS.2.2 (by decide) (by decide)
  · skip
    refine lv_iload_n hx hb dS_world_8 rfl (lv_at hl 2 rfl) ?_
    refine lv_iload_n hx hb dS_world_9 rfl (lv_at hl 3 rfl) ?_
    refine vp_callSi (va_Run.run (bc_runS (own := RS) (As := [.int i, .int j]) (rest := []) hx hb (hml.trans hl.1.symm) hown hts (kS_isCell l i j) w_234 w_232 w_233 w_1 hd_S_isCell rfl ⟨rfl, rfl⟩ ⟨Nat.le_of_ble_eq_true rfl, Nat.le_of_ble_eq_true rfl⟩ (fun _ _ _ _ _ => trivial) (fun _ _ _ => trivial) rfl (Nat.le_of_ble_eq_true rfl) dS_world_10 ⟨Nat.le_of_ble_eq_true rfl, Nat.le_of_ble_eq_true rfl⟩)) (fun r_10 hr_10 => ?_)
    refine lv_if_ne (tgt := 24) hx hb dS_world_13 (by decide) (fun c_13 => ?_) (fun c_13 => ?_)
    · skip
      have hp9 : pCell A n i j := ⟨hr_2.t c_5, hr_10.t c_13⟩
      obtain ⟨d, hd, rfl⟩ := rng_lt hp9.1.1 hp9.1.2 (by omega)
      obtain ⟨u, hu, rfl⟩ := rng_lt (a := 3) hp9.2.1.1 hp9.2.1.2 (by decide)
      obtain ⟨v, hv, rfl⟩ := rng_lt (a := 4) hp9.2.2.1 hp9.2.2.2 (by decide)
      refine lv_aload_n hx hb dS_world_24 rfl (lv_at hl 0 rfl) ?_
      refine lv_iload_n hx hb dS_world_25 rfl (lv_at hl 1 rfl) ?_
      refine lv_iconst (v := nI 1) hx hb dS_world_26 (by decide) ?_
      refine ln_iadd hx hb dS_world_27 ?_
      refine bc_callv (bc_runV (own := RS) (C := RS) (As := [.int (nI (d + 1))]) (rest := []) hx hb (hml.trans hl.1.symm) hown hts (kS_readyWorlds l D cs ad hI M s.heap.size (aN A) (d + 1) rr hN (by omega) hrr hC.pok hr7 hw) w_204 w_201 w_203 ws_sel_S_readyWorlds w_1 ⟨rfl, hd_S_readyWorlds⟩ rfl ⟨rfl, rfl⟩ ⟨Nat.le_of_ble_eq_true rfl, Nat.le_of_ble_eq_true rfl⟩ (fun _ _ _ _ h => h.calling) (bc_recv (r := (RS, TS, 14)) hE hP 0 (by decide) rfl rfl) (fun U hU hW => ⟨by rw [hU], by rw [hU]; exact hP, hE.warm hW⟩) rfl (Nat.le_of_ble_eq_true rfl) dS_world_28 ⟨Nat.le_of_ble_eq_true rfl, Nat.le_of_ble_eq_true rfl⟩) hS (fun M_1 H locs hr_28 hP hS => ?_)
      obtain ⟨hC1, hw1⟩ := hC.ready hrr (by omega) hr_28
      refine lv_aload_n hx hb dS_world_31 rfl (lv_at hl 0 rfl) ?_
      refine bw_get (own := RS) (ci := 1) (C := RS) (T := TS) (N := 14) (v := .ref (ad 102)) hx hb hts inS hown hE hP 0 (by decide) rfl rfl 6 (by decide) w_94 rfl rfl dS_world_32 ?_
      refine lv_iload_n hx hb dS_world_35 rfl (lv_at hl 1 rfl) ?_
      refine ln_aald (L := 48) hx hb hE hP 102 2 (by decide) (rfl) rfl (by omega) (by decide) (a := ad (103 + d)) (by first | rfl | (show (if _ then _ else _) = _; rw [if_pos (by omega)])) dS_world_36 ?_
      refine lv_iconst (v := nI 4) hx hb dS_world_37 (by decide) ?_
      refine lv_iload_n hx hb dS_world_38 rfl (lv_at hl 2 rfl) ?_
      refine ln_imul hx hb dS_world_39 ?_
      refine lv_iload_n hx hb dS_world_40 rfl (lv_at hl 3 rfl) ?_
      refine ln_iadd hx hb dS_world_41 ?_
      refine ln_iald (L := 12) (g := (M_1 (103 + d))) hx hb hE hP (103 + d) 0 (by omega) (sc_row103 (by omega)) rfl (by omega) (by decide) dS_world_42 ?_
      refine W.widen (k := 1) (n := 6) (by decide) (by decide) ?_
      exact vx_ret (W.iret (v := M_1 (103 + d) ((4 * u) + v)) hx hb hr (fun t ht hW => ⟨⟨_, M_1, rfl, ⟨by rw [nI_clamp (by omega), nI_clamp (by omega), nI_clamp (by omega)]; exact hw1 d (by omega) (4 * u + v) (by omega), hp9, hC1⟩, by show va_P _ _ _ t.heap; rw [ht]; exact hP⟩, hS.F ht⟩) hS.2.2 dS_world_43)
    · skip
      exact vx_throw0 (own := RS) (cls := nse) (names := nseUp) (ik := 93) (ic := 95) (A := bw_A ad 162 s.heap.size) hx hb hl0 hown (by decide +kernel) (by decide +kernel) (hts _ w_235) (hts _ w_8) (at0_all hts hthr) at0_ot hsZ.1 hsZ.2 hS (hl.1.trans hml.symm) dS_world_16 dS_world_19 dS_world_20 dS_world_23 (fun x h => (hexT x h).elim) (by decide) (by decide) (by decide) (by decide) hlocks (fun t _ hz9 hq9 => xX_of (⟨fun h9 => hr_10.f c_13 h9.2, hC⟩) hP hz9 hq9) hS.2.2 (by decide) (by decide)

set_option maxHeartbeats 4000000 in
set_option maxRecDepth 100000 in
theorem kS_model (l : Launch) (hl0 : l.stackTraces = false) (D : va_G) (cs : Nat → ClassId) (ad : Nat → Nat) (hI : bw_I ad 162) (M : Nat → Nat → Int32) (sz : Nat) (A : Ab) (hC : Cls A M) (n i j : Int32) : vx_Met l yS_model (wc yS_model cS_model 4 (some .int)) ({ frames := 6, cells := 1, slots := 6, locals := 111 } : Room) (va_Pc [.ref (ad 0), .int n, .int i, .int j] (xP D cs ad M sz)) (bQi D ad 162 (sc_cell cs ad) sz (fun r M1 => r = mA A n.toNatClampNeg i.toNatClampNeg j.toNatClampNeg ∧ pCell A n i j ∧ Cls A M1)) (xX D cs ad sz (fun M1 => ¬ pCell A n i j ∧ Cls A M1)) 1 6 (bw_A ad 162 sz) := by
  refine vx_ofW (cc := cS_model) (maxL := 4) (ret := (some .int)) (by decide +kernel) rfl ?_
  intro p e s m args below meth c s₁ B hml hexT hv
  obtain ⟨rfl, ⟨hsz, hP, hE⟩, hthr, hsZ⟩ := hv
  subst hsz
  have hx := B.exec
  have hb := B.bytes
  have hr := B.returns
  have hts : ∀ w9 ∈ ws_all, w9.before ([.ref (ad 0), .int n, .int i, .int j] : List Value).toArray s = true := fun w9 h => atoms_spec (ws := (wc yS_model cS_model 4 (some .int))) B.pre w9 (List.mem_cons_of_mem _ h)
  have hown : s.vm.findClass RS = some m.cls := findClass_of_methodNamed B.named
  have hlocks := B.notSynchronized
  have hS : va_S (bw_A ad 162 s.heap.size) s.heap s.heap [] := va_S.rf
  have hl := lv_entry ([.ref (ad 0), .int n, .int i, .int j]) (n := 4) (Nat.le_of_ble_eq_true rfl)
  rw [lg_entry_eq]
  generalize (lg_sl ([.ref (ad 0), .int n, .int i, .int j]) ++ List.replicate (4 - (lg_sl ([.ref (ad 0), .int n, .int i, .int j])).length) Slot.unset).toArray = ls at hl ⊢
  have hl : lv_has ls 4 [(0, .ref (ad 0)), (1, .int n), (2, .int i), (3, .int j)] := hl
  obtain ⟨hA, hn, hrow, heye, hview, hz, rr, hrr, hr7, hw⟩ := id hC
  have hN : aN A ≤ 48 := hA.1
  refine lv_aload_n hx hb dS_model_0 rfl (lv_at hl 0 rfl) ?_
  refine lv_iload_n hx hb dS_model_1 rfl (lv_at hl 1 rfl) ?_
  refine vp_callSi (va_Run.run (bc_runV (own := RS) (C := RS) (As := [.int n]) (rest := []) hx hb (hml.trans hl.1.symm) hown hts (kS_isNode l D cs ad hI M s.heap.size n) w_157 w_154 w_156 ws_sel_S_isNode w_1 ⟨rfl, hd_S_isNode⟩ rfl ⟨rfl, rfl⟩ ⟨Nat.le_of_ble_eq_true rfl, Nat.le_of_ble_eq_true rfl⟩ (fun _ _ _ _ h => h.calling) (bc_recv (r := (RS, TS, 14)) hE hP 0 (by decide) rfl rfl) (fun U hU hW => ⟨by rw [hU], by rw [hU]; exact hP, hE.warm hW⟩) rfl (Nat.le_of_ble_eq_true rfl) dS_model_2 ⟨Nat.le_of_ble_eq_true rfl, Nat.le_of_ble_eq_true rfl⟩)) (fun r_2 hr_2 => ?_)
  rw [hn] at hr_2
  refine lv_if_eq (tgt := 16) hx hb dS_model_5 (by decide) (fun c_5 => ?_) (fun c_5 => ?_)
  · skip
    exact vx_throw0 (own := RS) (cls := nse) (names := nseUp) (ik := 93) (ic := 95) (A := bw_A ad 162 s.heap.size) hx hb hl0 hown (by decide +kernel) (by decide +kernel) (hts _ w_235) (hts _ w_8) (at0_all hts hthr) at0_ot hsZ.1 hsZ.2 hS (hl.1.trans hml.symm) dS_model_16 dS_model_19 dS_model_20 dS_model_23 (fun x h => (hexT x h).elim) (by decide) (by decide) (by decide) (by decide) hlocks (fun t _ hz9 hq9 => xX_of (⟨fun h9 => hr_2.f c_5 h9.1, hC⟩) hP hz9 hq9) hS.2.2 (by decide) (by decide)
  · skip
    refine lv_iload_n hx hb dS_model_8 rfl (lv_at hl 2 rfl) ?_
    refine lv_iload_n hx hb dS_model_9 rfl (lv_at hl 3 rfl) ?_
    refine vp_callSi (va_Run.run (bc_runS (own := RS) (As := [.int i, .int j]) (rest := []) hx hb (hml.trans hl.1.symm) hown hts (kS_isCell l i j) w_234 w_232 w_233 w_1 hd_S_isCell rfl ⟨rfl, rfl⟩ ⟨Nat.le_of_ble_eq_true rfl, Nat.le_of_ble_eq_true rfl⟩ (fun _ _ _ _ _ => trivial) (fun _ _ _ => trivial) rfl (Nat.le_of_ble_eq_true rfl) dS_model_10 ⟨Nat.le_of_ble_eq_true rfl, Nat.le_of_ble_eq_true rfl⟩)) (fun r_10 hr_10 => ?_)
    refine lv_if_ne (tgt := 24) hx hb dS_model_13 (by decide) (fun c_13 => ?_) (fun c_13 => ?_)
    · skip
      have hp9 : pCell A n i j := ⟨hr_2.t c_5, hr_10.t c_13⟩
      obtain ⟨d, hd, rfl⟩ := rng_lt hp9.1.1 hp9.1.2 (by omega)
      obtain ⟨u, hu, rfl⟩ := rng_lt (a := 3) hp9.2.1.1 hp9.2.1.2 (by decide)
      obtain ⟨v, hv, rfl⟩ := rng_lt (a := 4) hp9.2.2.1 hp9.2.2.2 (by decide)
      refine lv_aload_n hx hb dS_model_24 rfl (lv_at hl 0 rfl) ?_
      refine lv_iload_n hx hb dS_model_25 rfl (lv_at hl 1 rfl) ?_
      refine lv_iconst (v := nI 1) hx hb dS_model_26 (by decide) ?_
      refine ln_iadd hx hb dS_model_27 ?_
      refine bc_callv (bc_runV (own := RS) (C := RS) (As := [.int (nI (d + 1))]) (rest := []) hx hb (hml.trans hl.1.symm) hown hts (kS_readyWorlds l D cs ad hI M s.heap.size (aN A) (d + 1) rr hN (by omega) hrr hC.pok hr7 hw) w_204 w_201 w_203 ws_sel_S_readyWorlds w_1 ⟨rfl, hd_S_readyWorlds⟩ rfl ⟨rfl, rfl⟩ ⟨Nat.le_of_ble_eq_true rfl, Nat.le_of_ble_eq_true rfl⟩ (fun _ _ _ _ h => h.calling) (bc_recv (r := (RS, TS, 14)) hE hP 0 (by decide) rfl rfl) (fun U hU hW => ⟨by rw [hU], by rw [hU]; exact hP, hE.warm hW⟩) rfl (Nat.le_of_ble_eq_true rfl) dS_model_28 ⟨Nat.le_of_ble_eq_true rfl, Nat.le_of_ble_eq_true rfl⟩) hS (fun M_1 H locs hr_28 hP hS => ?_)
      obtain ⟨hC1, hw1⟩ := hC.ready hrr (by omega) hr_28
      refine lv_aload_n hx hb dS_model_31 rfl (lv_at hl 0 rfl) ?_
      refine bw_get (own := RS) (ci := 1) (C := RS) (T := TS) (N := 14) (v := .ref (ad 152)) hx hb hts inS hown hE hP 0 (by decide) rfl rfl 9 (by decide) w_97 rfl rfl dS_model_32 ?_
      refine lv_aload_n hx hb dS_model_35 rfl (lv_at hl 0 rfl) ?_
      refine bw_get (own := RS) (ci := 1) (C := RS) (T := TS) (N := 14) (v := .ref (ad 102)) hx hb hts inS hown hE hP 0 (by decide) rfl rfl 6 (by decide) w_94 rfl rfl dS_model_36 ?_
      refine lv_iload_n hx hb dS_model_39 rfl (lv_at hl 1 rfl) ?_
      refine ln_aald (L := 48) hx hb hE hP 102 2 (by decide) (rfl) rfl (by omega) (by decide) (a := ad (103 + d)) (by first | rfl | (show (if _ then _ else _) = _; rw [if_pos (by omega)])) dS_model_40 ?_
      refine lv_iload_n hx hb dS_model_41 rfl (lv_at hl 2 rfl) ?_
      refine lv_iload_n hx hb dS_model_42 rfl (lv_at hl 3 rfl) ?_
      refine vp_callSi (va_Run.run (bc_runS (own := RS) (As := [.ref (ad 152), .ref (ad (103 + d)), .int (nI u), .int (nI v)]) (rest := []) hx hb (hml.trans hl.1.symm) hown hts (kS_productAt l D cs ad hI M_1 H.size 152 (103 + d) (by decide) (by omega) (fun _ => rfl) (fun _ => sc_row103 (by omega)) u v hu hv) w_73 w_71 w_72 w_1 hd_S_productAt rfl ⟨rfl, rfl⟩ ⟨Nat.le_of_ble_eq_true rfl, Nat.le_of_ble_eq_true rfl⟩ (fun _ _ _ _ h => h.calling) (fun U hU hW => ⟨by rw [hU], by rw [hU]; exact hP, hE.warm hW⟩) rfl (Nat.le_of_ble_eq_true rfl) dS_model_43 ⟨Nat.le_of_ble_eq_true rfl, Nat.le_of_ble_eq_true rfl⟩)) (fun r_43 hr_43 => ?_)
      refine W.widen (k := 1) (n := 6) (by decide) (by decide) ?_
      exact vx_ret (W.iret (v := r_43) hx hb hr (fun t ht hW => ⟨⟨_, M_1, rfl, ⟨by rw [hr_43, nI_clamp (by omega), nI_clamp (by omega), nI_clamp (by omega)]; exact jprod_congr hC1.2.2.2.2.1 (hw1 d (by omega)) hu hv, hp9, hC1⟩, by show va_P _ _ _ t.heap; rw [ht]; exact hP⟩, hS.F ht⟩) hS.2.2 dS_model_46)
    · skip
      exact vx_throw0 (own := RS) (cls := nse) (names := nseUp) (ik := 93) (ic := 95) (A := bw_A ad 162 s.heap.size) hx hb hl0 hown (by decide +kernel) (by decide +kernel) (hts _ w_235) (hts _ w_8) (at0_all hts hthr) at0_ot hsZ.1 hsZ.2 hS (hl.1.trans hml.symm) dS_model_16 dS_model_19 dS_model_20 dS_model_23 (fun x h => (hexT x h).elim) (by decide) (by decide) (by decide) (by decide) hlocks (fun t _ hz9 hq9 => xX_of (⟨fun h9 => hr_10.f c_13 h9.2, hC⟩) hP hz9 hq9) hS.2.2 (by decide) (by decide)

set_option maxHeartbeats 4000000 in
set_option maxRecDepth 100000 in
theorem kS_about (l : Launch) (hl0 : l.stackTraces = false) (D : va_G) (cs : Nat → ClassId) (ad : Nat → Nat) (hI : bw_I ad 162) (M : Nat → Nat → Int32) (sz : Nat) (A : Ab) (hC : Cls A M) (n q : Int32) : vx_Met l yS_about (wc yS_about cS_about 3 (some .int)) ({ frames := 6, cells := 1, slots := 6, locals := 81 } : Room) (va_Pc [.ref (ad 0), .int n, .int q] (xP D cs ad M sz)) (bQi D ad 162 (sc_cell cs ad) sz (fun r M1 => r = abA A n.toNatClampNeg q.toNatClampNeg ∧ pAbt A n q ∧ Cls A M1)) (xX D cs ad sz (fun M1 => ¬ pAbt A n q ∧ Cls A M1)) 1 6 (bw_A ad 162 sz) := by
  refine vx_ofW (cc := cS_about) (maxL := 3) (ret := (some .int)) (by decide +kernel) rfl ?_
  intro p e s m args below meth c s₁ B hml hexT hv
  obtain ⟨rfl, ⟨hsz, hP, hE⟩, hthr, hsZ⟩ := hv
  subst hsz
  have hx := B.exec
  have hb := B.bytes
  have hr := B.returns
  have hts : ∀ w9 ∈ ws_all, w9.before ([.ref (ad 0), .int n, .int q] : List Value).toArray s = true := fun w9 h => atoms_spec (ws := (wc yS_about cS_about 3 (some .int))) B.pre w9 (List.mem_cons_of_mem _ h)
  have hown : s.vm.findClass RS = some m.cls := findClass_of_methodNamed B.named
  have hlocks := B.notSynchronized
  have hS : va_S (bw_A ad 162 s.heap.size) s.heap s.heap [] := va_S.rf
  have hl := lv_entry ([.ref (ad 0), .int n, .int q]) (n := 3) (Nat.le_of_ble_eq_true rfl)
  rw [lg_entry_eq]
  generalize (lg_sl ([.ref (ad 0), .int n, .int q]) ++ List.replicate (3 - (lg_sl ([.ref (ad 0), .int n, .int q])).length) Slot.unset).toArray = ls at hl ⊢
  have hl : lv_has ls 3 [(0, .ref (ad 0)), (1, .int n), (2, .int q)] := hl
  obtain ⟨hA, hn, hrow, heye, hview, hz, rr, hrr, hr7, hw⟩ := id hC
  have hN : aN A ≤ 48 := hA.1
  refine lv_aload_n hx hb dS_about_0 rfl (lv_at hl 0 rfl) ?_
  refine lv_iload_n hx hb dS_about_1 rfl (lv_at hl 1 rfl) ?_
  refine vp_callSi (va_Run.run (bc_runV (own := RS) (C := RS) (As := [.int n]) (rest := []) hx hb (hml.trans hl.1.symm) hown hts (kS_isNode l D cs ad hI M s.heap.size n) w_157 w_154 w_156 ws_sel_S_isNode w_1 ⟨rfl, hd_S_isNode⟩ rfl ⟨rfl, rfl⟩ ⟨Nat.le_of_ble_eq_true rfl, Nat.le_of_ble_eq_true rfl⟩ (fun _ _ _ _ h => h.calling) (bc_recv (r := (RS, TS, 14)) hE hP 0 (by decide) rfl rfl) (fun U hU hW => ⟨by rw [hU], by rw [hU]; exact hP, hE.warm hW⟩) rfl (Nat.le_of_ble_eq_true rfl) dS_about_2 ⟨Nat.le_of_ble_eq_true rfl, Nat.le_of_ble_eq_true rfl⟩)) (fun r_2 hr_2 => ?_)
  rw [hn] at hr_2
  refine lv_if_eq (tgt := 18) hx hb dS_about_5 (by decide) (fun c_5 => ?_) (fun c_5 => ?_)
  · skip
    exact vx_throw0 (own := RS) (cls := nse) (names := nseUp) (ik := 93) (ic := 95) (A := bw_A ad 162 s.heap.size) hx hb hl0 hown (by decide +kernel) (by decide +kernel) (hts _ w_235) (hts _ w_8) (at0_all hts hthr) at0_ot hsZ.1 hsZ.2 hS (hl.1.trans hml.symm) dS_about_18 dS_about_21 dS_about_22 dS_about_25 (fun x h => (hexT x h).elim) (by decide) (by decide) (by decide) (by decide) hlocks (fun t _ hz9 hq9 => xX_of (⟨fun h9 => hr_2.f c_5 h9.1, hC⟩) hP hz9 hq9) hS.2.2 (by decide) (by decide)
  · skip
    refine lv_iload_n hx hb dS_about_8 rfl (lv_at hl 2 rfl) ?_
    refine lv_if_lt (tgt := 18) hx hb dS_about_9 (by decide) (fun c_9 => ?_) (fun c_9 => ?_)
    · skip
      exact vx_throw0 (own := RS) (cls := nse) (names := nseUp) (ik := 93) (ic := 95) (A := bw_A ad 162 s.heap.size) hx hb hl0 hown (by decide +kernel) (by decide +kernel) (hts _ w_235) (hts _ w_8) (at0_all hts hthr) at0_ot hsZ.1 hsZ.2 hS (hl.1.trans hml.symm) dS_about_18 dS_about_21 dS_about_22 dS_about_25 (fun x h => (hexT x h).elim) (by decide) (by decide) (by decide) (by decide) hlocks (fun t _ hz9 hq9 => xX_of (⟨fun h9 => by have := h9.2.1; simp only [Int32.lt_iff_toInt_lt, Int32.le_iff_toInt_le, nI, Int32.reduceOfNat, Int32.reduceToInt] at c_9 this; omega, hC⟩) hP hz9 hq9) hS.2.2 (by decide) (by decide)
    · skip
      refine lv_iload_n hx hb dS_about_12 rfl (lv_at hl 2 rfl) ?_
      refine lv_bipush (v := nI 12) hx hb dS_about_13 (by decide) ?_
      refine lv_icmp_lt (tgt := 26) hx hb dS_about_15 (by decide) (fun c_15 => ?_) (fun c_15 => ?_)
      · skip
        have hp9 : pAbt A n q := ⟨hr_2.t c_5, by simp only [Int32.lt_iff_toInt_lt, Int32.le_iff_toInt_le, nI, Int32.reduceOfNat, Int32.reduceToInt] at c_9 ⊢; omega, c_15⟩
        obtain ⟨d, hd, rfl⟩ := rng_lt hp9.1.1 hp9.1.2 (by omega)
        obtain ⟨u, hu, rfl⟩ := rng_lt hp9.2.1 hp9.2.2 (by decide)
        refine lv_iload_n hx hb dS_about_26 rfl (lv_at hl 2 rfl) ?_
        rcases (show u = 0 ∨ u = 1 ∨ u = 2 ∨ 3 ≤ u by omega) with rfl | rfl | rfl | h3
        · skip
          refine lv_tableIn (off := 25) (tgt := 52) hx hb dS_about_27 (by decide) (by decide) rfl (by decide) ?_
          refine lv_aload_n hx hb dS_about_52 rfl (lv_at hl 0 rfl) ?_
          refine bw_get (own := RS) (ci := 1) (C := RS) (T := TS) (N := 14) (v := .ref (ad 1)) hx hb hts inS hown hE hP 0 (by decide) rfl rfl 1 (by decide) w_89 rfl rfl dS_about_53 ?_
          refine lv_iload_n hx hb dS_about_56 rfl (lv_at hl 1 rfl) ?_
          refine ln_iald (L := 48) (g := (M 1)) hx hb hE hP 1 0 (by decide) (rfl) rfl (by omega) (by decide) dS_about_57 ?_
          refine W.widen (k := 1) (n := 6) (by decide) (by decide) ?_
          exact vx_ret (W.iret (v := M 1 d) hx hb hr (fun t ht hW => ⟨⟨_, M, rfl, ⟨by rw [nI_clamp (by omega), nI_clamp (by omega)]; unfold abA; rw [if_pos rfl]; exact (hrow d hd).1, hp9, hC⟩, by show va_P _ _ _ t.heap; rw [ht]; exact hP⟩, hS.F ht⟩) hS.2.2 dS_about_58)
        · skip
          refine lv_tableIn (off := 32) (tgt := 59) hx hb dS_about_27 (by decide) (by decide) rfl (by decide) ?_
          refine lv_aload_n hx hb dS_about_59 rfl (lv_at hl 0 rfl) ?_
          refine bw_get (own := RS) (ci := 1) (C := RS) (T := TS) (N := 14) (v := .ref (ad 2)) hx hb hts inS hown hE hP 0 (by decide) rfl rfl 2 (by decide) w_90 rfl rfl dS_about_60 ?_
          refine lv_iload_n hx hb dS_about_63 rfl (lv_at hl 1 rfl) ?_
          refine ln_iald (L := 48) (g := (M 2)) hx hb hE hP 2 0 (by decide) (rfl) rfl (by omega) (by decide) dS_about_64 ?_
          refine W.widen (k := 1) (n := 6) (by decide) (by decide) ?_
          exact vx_ret (W.iret (v := M 2 d) hx hb hr (fun t ht hW => ⟨⟨_, M, rfl, ⟨by rw [nI_clamp (by omega), nI_clamp (by omega)]; unfold abA; rw [if_neg (by decide), if_pos rfl]; exact (hrow d hd).2.1, hp9, hC⟩, by show va_P _ _ _ t.heap; rw [ht]; exact hP⟩, hS.F ht⟩) hS.2.2 dS_about_65)
        · skip
          refine lv_tableIn (off := 39) (tgt := 66) hx hb dS_about_27 (by decide) (by decide) rfl (by decide) ?_
          refine lv_aload_n hx hb dS_about_66 rfl (lv_at hl 0 rfl) ?_
          refine bw_get (own := RS) (ci := 1) (C := RS) (T := TS) (N := 14) (v := .ref (ad 3)) hx hb hts inS hown hE hP 0 (by decide) rfl rfl 3 (by decide) w_91 rfl rfl dS_about_67 ?_
          refine lv_iload_n hx hb dS_about_70 rfl (lv_at hl 1 rfl) ?_
          refine ln_zald (L := 48) (g := (M 3)) hx hb hE hP 3 1 (by decide) (rfl) rfl (by omega) (by decide) dS_about_71 ?_
          refine lv_if_eq (tgt := 79) hx hb dS_about_72 (by decide) (fun c_72 => ?_) (fun c_72 => ?_)
          · skip
            refine lv_iconst (v := nI 0) hx hb dS_about_79 (by decide) ?_
            refine W.widen (k := 1) (n := 6) (by decide) (by decide) ?_
            exact vx_ret (W.iret (v := nI 0) hx hb hr (fun t ht hW => ⟨⟨_, M, rfl, ⟨by rw [nI_clamp (by omega), nI_clamp (by omega)]; unfold abA; rw [if_neg (by decide), if_neg (by decide), if_pos rfl, ← (hrow d hd).2.2.1]; rw [if_pos c_72], hp9, hC⟩, by show va_P _ _ _ t.heap; rw [ht]; exact hP⟩, hS.F ht⟩) hS.2.2 dS_about_80)
          · skip
            refine lv_iconst (v := nI 1) hx hb dS_about_75 (by decide) ?_
            refine lv_goto (tgt := 80) hx hb dS_about_76 (by decide) ?_
            refine W.widen (k := 1) (n := 6) (by decide) (by decide) ?_
            exact vx_ret (W.iret (v := nI 1) hx hb hr (fun t ht hW => ⟨⟨_, M, rfl, ⟨by rw [nI_clamp (by omega), nI_clamp (by omega)]; unfold abA; rw [if_neg (by decide), if_neg (by decide), if_pos rfl, ← (hrow d hd).2.2.1]; rw [if_neg c_72], hp9, hC⟩, by show va_P _ _ _ t.heap; rw [ht]; exact hP⟩, hS.F ht⟩) hS.2.2 dS_about_80)
        · skip
          refine lv_tableOut (tgt := 81) hx hb dS_about_27 (Or.inr (by rw [nI_toInt (by omega)]; omega)) (by decide) ?_
          refine lv_aload_n hx hb dS_about_81 rfl (lv_at hl 0 rfl) ?_
          refine bw_get (own := RS) (ci := 1) (C := RS) (T := TS) (N := 14) (v := .ref (ad 4)) hx hb hts inS hown hE hP 0 (by decide) rfl rfl 4 (by decide) w_92 rfl rfl dS_about_82 ?_
          refine lv_iload_n hx hb dS_about_85 rfl (lv_at hl 1 rfl) ?_
          refine ln_aald (L := 48) hx hb hE hP 4 2 (by decide) (rfl) rfl (by omega) (by decide) (a := ad (5 + d)) (by first | rfl | (show (if _ then _ else _) = _; rw [if_pos (by omega)])) dS_about_86 ?_
          refine lv_iload_n hx hb dS_about_87 rfl (lv_at hl 2 rfl) ?_
          refine lv_iconst (v := nI 3) hx hb dS_about_88 (by decide) ?_
          refine ln_isub hx hb dS_about_89 (h3) ?_
          refine ln_iald (L := 9) (g := (M (5 + d))) hx hb hE hP (5 + d) 0 (by omega) (sc_row5 (by omega)) rfl (by omega) (by decide) dS_about_90 ?_
          refine W.widen (k := 1) (n := 6) (by decide) (by decide) ?_
          exact vx_ret (W.iret (v := M (5 + d) (u - 3)) hx hb hr (fun t ht hW => ⟨⟨_, M, rfl, ⟨by rw [nI_clamp (by omega), nI_clamp (by omega)]; unfold abA; rw [if_neg (by omega), if_neg (by omega), if_neg (by omega)]; exact (hrow d hd).2.2.2.1 (u - 3) (by omega), hp9, hC⟩, by show va_P _ _ _ t.heap; rw [ht]; exact hP⟩, hS.F ht⟩) hS.2.2 dS_about_91)
      · skip
        exact vx_throw0 (own := RS) (cls := nse) (names := nseUp) (ik := 93) (ic := 95) (A := bw_A ad 162 s.heap.size) hx hb hl0 hown (by decide +kernel) (by decide +kernel) (hts _ w_235) (hts _ w_8) (at0_all hts hthr) at0_ot hsZ.1 hsZ.2 hS (hl.1.trans hml.symm) dS_about_18 dS_about_21 dS_about_22 dS_about_25 (fun x h => (hexT x h).elim) (by decide) (by decide) (by decide) (by decide) hlocks (fun t _ hz9 hq9 => xX_of (⟨fun h9 => c_15 h9.2.2, hC⟩) hP hz9 hq9) hS.2.2 (by decide) (by decide)
