/-! THE LAW'S START: what the tables give -/
theorem nest_tbl : ∀ w ∈ nestW, w ∈ lw_tbl := by decide +kernel
theorem nest_ot : ∀ w ∈ nestW, w.onTables = true := by decide +kernel
theorem thr_tbl : ∀ w ∈ thrW, w ∈ lw_tbl := by decide +kernel
theorem ao_tbl : Cond.arrayOver (.array .int) ∈ lw_tbl := by decide +kernel
theorem st1_tbl : Cond.laysStatic Bundle.tN "UNASSIGNED_STACK" Bundle.steD ∈ lw_tbl := by decide +kernel
theorem st2_tbl : Cond.laysStatic Bundle.tN "SUPPRESSED_SENTINEL" Bundle.listD ∈ lw_tbl := by decide +kernel
theorem st0_tbl : Cond.initialized Bundle.tN ∈ lw_tbl := by decide +kernel
theorem arr_of {s : State} {cA comp : ClassId} {kA : Class} {ty : FieldType} (h1 : s.vm.classes[cA]? = some kA) (h2 : kA.kind = .array comp ty) : ArrOfT s cA ty := fun n z => ⟨fun k h => (by cases h), kA, h1, comp, h2⟩
theorem tabs_of {s : State} {b : Nat} (hts : ∀ w ∈ lw_tbl, w.before #[Value.ref b] s = true) : ∃ (D : va_G) (cs : Nat → ClassId), bE D (a_tys cs) s := by
  have ht : ∀ w ∈ ws_all, w.before #[Value.ref b] s = true := fun w h => hts w (ws_tbl h)
  obtain ⟨c0, iS0, hKn0⟩ := u_known (C := RT) (T := TT) (N := 5) (n := 5) ht inT (ht _ w_21)
  obtain ⟨c1, iS1, hKn1⟩ := u_known (C := RS) (T := TS) (N := 14) (n := 14) ht inS (ht _ w_11)
  obtain ⟨c2, iS2, hKn2⟩ := u_known (C := RM) (T := TM) (N := 14) (n := 14) ht inM (ht _ w_311)
  obtain ⟨a0, k0, m0, f0, g0, e0⟩ := Cond.arrayClass_spec (ht _ w_42)
  obtain ⟨a1, k1, m1, f1, g1, e1⟩ := Cond.arrayClass_spec (ht _ w_43)
  obtain ⟨m2, a2, k2, -, -, g2, e2, f2⟩ := Jvm.Stand.arrayOver_specB (hts _ ao_tbl)
  obtain ⟨a3, k3, m3, f3, g3, e3⟩ := Cond.arrayClass_spec (ht _ w_359)
  refine ⟨(fun k => if k = 0 then c0 else if k = 1 then c1 else c2, fun k => if k = 0 then iS0 else if k = 1 then iS1 else iS2), fun k => if k = 0 then a0 else if k = 1 then a1 else if k = 2 then a2 else a3, ⟨fun k q hq => ?_, fun k q hq => ?_⟩, fun w h => va_Nw.of (nest_ot w h) (hts w (nest_tbl w h))⟩
  · match k, hq with
    | 0, hq => cases hq; exact hKn0
    | 1, hq => cases hq; exact hKn1
    | 2, hq => cases hq; exact hKn2
    | k + 3, hq => simp [cls3] at hq
  · match k, hq with
    | 0, hq => cases hq; exact ⟨arr_of g0 e0, f0⟩
    | 1, hq => cases hq; exact ⟨arr_of g1 e1, f1⟩
    | 2, hq => cases hq; exact ⟨arr_of g2 e2, f2⟩
    | 3, hq => cases hq; exact ⟨arr_of g3 e3, f3⟩
    | k + 4, hq => simp [a_tys] at hq
theorem thr_of {s : State} {b : Nat} (hts : ∀ w ∈ lw_tbl, w.before #[Value.ref b] s = true) : thrOk s := fun w h => va_Nw.of (thrW_ot w h) (hts w (thr_tbl w h))
theorem ao_of {s : State} {b : Nat} (hts : ∀ w ∈ lw_tbl, w.before #[Value.ref b] s = true) : aoN s := Jvm.Stand.arrayOver_alikeB (Vm.Alike.refl s.vm) (hts _ ao_tbl)
theorem sZ_of {s : State} {b : Nat} (hts : ∀ w ∈ lw_tbl, w.before #[Value.ref b] s = true) (hgv : (Jvm.Cond.and given_1 narrow_1).before #[Value.ref b] s = true) : sZ (gA s.heap.size) s := by
  have hq := flat_of_before _ hgv
  have hA : ∀ a : Nat, a < s.heap.size → ¬ gA s.heap.size a := fun a h => Nat.not_le.mpr h
  exact ⟨vx_Zqof (hts _ st1_tbl) (hts _ st0_tbl) (hq _ (by decide +kernel)) hA, vx_Zqof (hts _ st2_tbl) (hts _ st0_tbl) (hq _ (by decide +kernel)) hA⟩
theorem bw_0 {D : va_G} {o : Nat} {f : Nat → va_E} {H : Heap} : va_P D cls3 (bw (ca o) 0 f) H := bw_P fun k hk => absurd hk (Nat.not_lt_zero _)
set_option maxHeartbeats 4000000 in
set_option maxRecDepth 100000 in
/-- from the entry, for every script of at most 3072 ints, the law comes to its end with true -/
theorem whole_start {p : Program} {e : Env} {s : State} {m : MethodId} {below : List Frame} {meth : Method} {c : Code} (l : Launch) (hl0 : l.stackTraces = false) {b L : Nat} {xs : Nat → Int32} (hL : L ≤ 3072) (C0 : lw_At p s m meth c b L xs) : W p l e room_1 s m #[Value.ref b] below meth c s.heap [] 0 0 (lw_Z below #[Value.ref b] s) (entryFrame m ([Value.ref b] : List Value).toArray 7) := by
  obtain ⟨hx, hb, hr, hml, hown, htsT, hX, hbl, hlocks, hgv⟩ := id C0
  have hb : c.code = cL_law := hb
  have hown : s.vm.findClass RL = some m.cls := hown
  have hts : ∀ w ∈ ws_all, w.before #[Value.ref b] s = true := fun w h => htsT w (ws_tbl h)
  obtain ⟨D, cs, hE⟩ := tabs_of htsT
  have hthr := thr_of htsT
  have hao := ao_of htsT
  have hsZ := sZ_of htsT hgv
  have hS : va_S (gA s.heap.size) s.heap s.heap [] := va_S.rf
  have hl := lv_entry ([.ref b]) (n := 7) (Nat.le_of_ble_eq_true rfl)
  rw [lg_entry_eq]
  generalize (lg_sl ([.ref b]) ++ List.replicate (7 - (lg_sl ([.ref b])).length) Slot.unset).toArray = ls at hl ⊢
  have hl : lv_has ls 7 [(0, .ref b)] := hl
  refine cn_newc (own := RL) (C := RS) (T := TS) (N := 14) (ci := 1) (o := s.heap.size) (k := 0) (f := fun _ => .inr (1, [.int 0, .null, .null, .null, .null, .null, .null, .int 0, .null, .null, .null, .null, .null, .null])) (fs := [.int 0, .null, .null, .null, .null, .null, .null, .int 0, .null, .null, .null, .null, .null, .null]) hx hb hts inS tyS tyS_ok hown (hts _ w_10) (hts _ w_11) (hts _ w_1) hE bw_0 rfl hS rfl (by decide +kernel) rfl (Nat.le_of_ble_eq_true rfl) (Nat.le_of_ble_eq_true rfl) dL_law_0 (fun H hP hz hS _ => ?_)
  refine lv_dup hx hb dL_law_3 rfl ?_
  refine va_callv (bc_runI (own := RL) (b := s.heap.size) (As := []) (rest := [.ref s.heap.size]) hx hb (hml.trans hl.1.symm) hown hts (kS_init l D cs s.heap.size) w_14 w_12 w_13 w_1 rfl hd_S_init rfl ⟨rfl, rfl⟩ ⟨Nat.le_of_ble_eq_true rfl, Nat.le_of_ble_eq_true rfl⟩ (fun _ _ _ _ h => h.calling) (fun U hU hW => ⟨by rw [hU]; exact hz, by rw [hU]; exact hP, hE.warm hW, hao.alike hW.alike⟩) rfl (Nat.le_of_ble_eq_true rfl) dL_law_4 ⟨Nat.le_of_ble_eq_true rfl, Nat.le_of_ble_eq_true rfl⟩) hS (fun q _ h => h) (fun q h => h) (fun M1 t H1 locs1 ht _ hC hB hz1 hk1 hS => ?_)
  rw [ht] at hB
  have h162 : s.heap.size + 161 < H1.size := bw_lt hB (k := 161) (by decide)
  refine lv_astore_n (lv' := [(1, .ref s.heap.size), (0, .ref b)]) hx hb dL_law_7 rfl hl (by decide) rfl (fun ls hl => ?_)
  refine cn_newc (own := RL) (C := RM) (T := TM) (N := 14) (ci := 2) (o := H1.size) (k := 0) (f := fun _ => .inr (2, [.int 0, .int 0, .null, .null, .null, .null, .null, .null, .null, .null, .null, .null, .null, .null])) (fs := [.int 0, .int 0, .null, .null, .null, .null, .null, .null, .null, .null, .null, .null, .null, .null]) hx hb hts inM tyM tyM_ok hown (hts _ w_310) (hts _ w_311) (hts _ w_4) hE bw_0 rfl hS rfl (by decide +kernel) rfl (Nat.le_of_ble_eq_true rfl) (Nat.le_of_ble_eq_true rfl) dL_law_8 (fun H2 hP2 hz2 hS hk2 => ?_)
  have hB := bw_keep (B := fun _ => False) hB (fun q h _ => hk2 q h) (fun _ _ _ _ h => h)
  refine lv_dup hx hb dL_law_11 rfl ?_
  refine va_callv (bc_runI (own := RL) (b := H1.size) (As := []) (rest := [.ref H1.size]) hx hb (hml.trans hl.1.symm) hown hts (kM_init l D cs H1.size) w_314 w_312 w_313 w_4 rfl hd_M_init rfl ⟨rfl, rfl⟩ ⟨Nat.le_of_ble_eq_true rfl, Nat.le_of_ble_eq_true rfl⟩ (fun _ _ _ _ h => h.calling) (fun U hU hW => ⟨by rw [hU]; exact hz2, by rw [hU]; exact hP2, hE.warm hW, hao.alike hW.alike⟩) rfl (Nat.le_of_ble_eq_true rfl) dL_law_12 ⟨Nat.le_of_ble_eq_true rfl, Nat.le_of_ble_eq_true rfl⟩) hS (fun q _ h => by have h : H1.size ≤ q := h; show s.heap.size ≤ q; omega) (fun q h => by have h : H1.size ≤ q := h; show s.heap.size ≤ q; omega) (fun R1 t3 H3 locs3 ht3 _ hR hB3 hz3 hk3 hS => ?_)
  rw [ht3] at hB3
  have h13 : H1.size + 12 < H3.size := bw_lt hB3 (k := 12) (by decide)
  have hB := bw_keep hB hk3 (fun q h1 h2 h3 h4 => by have h4 : H1.size ≤ q := h4; omega)
  refine lv_astore_n (lv' := [(2, .ref H1.size), (1, .ref s.heap.size), (0, .ref b)]) hx hb dL_law_15 rfl hl (by decide) rfl (fun ls hl => ?_)
  refine lv_iconst (v := nI 1) hx hb dL_law_16 (by decide) ?_
  refine va_newaK (atype := .long) (N := 1) hx hb (hts _ w_359) rfl dL_law_17 rfl (by decide) (by decide) (by decide) (Nat.le_of_ble_eq_true rfl) (Nat.le_of_ble_eq_true rfl) rfl (fun H4 cB e4 z4 k4 _ hNm => ?_)
  have hcB : cB = cs 3 := Option.some.inj (hNm.symm.trans (hE.1.2 3 _ rfl).2)
  subst hcB
  have hO : va_P D cls3 (oc cs H3.size (fun _ => 0)) H4 := fun k q hq => by
    have h0 : k < 1 := (List.getElem?_eq_some_iff.mp hq).1
    rw [show k = 0 by omega] at hq
    cases hq
    show H4[H3.size]? = some (vp_cell _ _)
    exact e4
  have hB := bw_keep (B := fun _ => False) hB (fun q h _ => k4 q h) (fun _ _ _ _ h => h)
  have hB3 := bw_keep (B := fun _ => False) hB3 (fun q h _ => k4 q h) (fun _ _ _ _ h => h)
  have hS : va_S (gA s.heap.size) s.heap H4 locs3 := ⟨Nat.le_trans hS.1 (by omega), fun x h1 h2 => (k4 x (by have := hS.1; omega)).trans (hS.2.1 x h1 h2), hS.2.2⟩
  refine W.eq (g2 := F0 m 19 ls [.ref H3.size]) rfl ?_
  refine lv_astore_n (lv' := [(3, .ref H3.size), (2, .ref H1.size), (1, .ref s.heap.size), (0, .ref b)]) hx hb dL_law_19 rfl hl (by decide) rfl (fun ls hl => ?_)
  refine lv_iconst (v := nI 0) hx hb dL_law_20 (by decide) ?_
  refine lv_istore (lv' := [(4, .int (nI 0)), (3, .ref H3.size), (2, .ref H1.size), (1, .ref s.heap.size), (0, .ref b)]) hx hb dL_law_21 hl (by decide) rfl (fun ls hl => ?_)
  exact law_loop (o := s.heap.size) (oM := H1.size) (oL := H3.size) ⟨hx, hb, hml, hown, hts, hX, hbl, hL, hE, hthr, hsZ, hl0, Nat.le_refl _, h162, h13⟩ hr hlocks (L + 1) 0 (by omega) (by omega) Ab0 M1 R1 (fun _ => 0) H4 locs3 _ _ ls hC hR ⟨hB, hB3, hO⟩ hS (lv_sub hl [4, 3, 2, 1, 0] rfl) (by decide) (by decide)
set_option maxHeartbeats 4000000 in
theorem lw_walk (l : Launch) (hl0 : l.stackTraces = false) (b : Addr) (xs : List Int32) : MetFree l x (headSpec (Jvm.Cond.code x code maxLocals ret :: tables_1) room_1) (lw_P b xs) (fun _ _ _ _ _ => True) lw_Q := by
  refine MetFree.of_bodyS (code := code) (maxLocals := maxLocals) (ret := ret) (by decide) ?_ ?_
  · intro args s m h hn
    obtain ⟨meth, c, h1, h2, h3, h4, h5, h6, -, -⟩ := Cond.code_spec hn (atoms_spec (ws := Jvm.Cond.code x code maxLocals ret :: tables_1) h _ List.mem_cons_self)
    exact ⟨meth, c, h1, h2, h3, h4, h5, h6⟩
  · intro p e s m args below meth c s₁ B hml0 hP _
    obtain ⟨rfl, hx, hbd, hgv⟩ := hP
    obtain ⟨scr, harrAt, hlist, hof, hsmall⟩ := hx
    obtain ⟨hcb, hkn, -, -⟩ := State.arrayAt?_spec harrAt
    have hown : s.vm.findClass R_law = some m.cls := findClass_of_methodNamed B.named
    have hts0 : ∀ c ∈ (Jvm.Cond.code x code maxLocals ret :: tables_1), c.before #[Value.ref b] s = true := atoms_spec (ws := Jvm.Cond.code x code maxLocals ret :: tables_1) B.pre
    have hts : ∀ w ∈ lw_tbl, w.before #[Value.ref b] s = true := k2_hts_sels lw_privs (fun w hw => hts0 w (List.mem_cons_of_mem _ hw)) lw_privs_ok
    have hml : c.maxLocals = 7 := B.maxLocals_eq (hts0 _ List.mem_cons_self)
    have X₀ : Stand p l e room_1 s m #[Value.ref b] below meth c s₁ [] 0 0 := Stand.of_body B
    have hh0 : s₁.heap = s.heap := by rw [B.state]; rfl
    have hsz : scr.slots.size = xs.length := by rw [← Array.length_toList, hlist, List.length_map]
    have hval : ∀ j : Nat, j < xs.length → scr.slots[j]? = some (.int (xs.getD j 0)) := fun j hj => by
      rw [← Array.getElem?_toList, hlist]
      simp [hj]
    have hbl : b < s.heap.size := (Array.getElem?_eq_some_iff.mp hcb).1
    have hX : va_X b xs.length (fun j => xs.getD j 0) s s.heap := ⟨scr, hcb, hof, hkn, hsz, hval⟩
    have K : W p l e room_1 s m #[Value.ref b] below meth c s₁.heap [] 0 0 (lw_Z below #[Value.ref b] s) (entryFrame m ([Value.ref b] : List Value).toArray 7) := by
      rw [hh0]
      exact whole_start l hl0 hbd ⟨B.exec, B.bytes, B.returns, hml, hown, hts, hX, hbl, B.notSynchronized, hgv⟩
    obtain ⟨t, a1, o, b1, b2, b3⟩ := K s₁ rfl X₀
    exact ⟨t, o, a1, b1, b2, b3⟩
theorem lw_pre_spec {args : Array Value} {s : State} (h : (Jvm.Cond.and given_1 narrow_1).before args s = true) (hr : rest_1_c.before args s = true) : ∃ (b : Addr) (xs : List Int32), lw_P b xs args s := by
  have hs := flat_of_before _ h
  have hq := flat_of_before _ hr
  have hc : (Cond.count 1).before args s = true := hs _ (by decide +kernel)
  have harr : (Cond.arrayOf (.arg 0) .int).before args s = true := hs _ (by decide +kernel)
  have hle : (Cond.le (.length (.arg 0)) (.int 3072)).before args s = true := hs _ (by decide +kernel)
  have hlen : (Cond.isInt (.length (.arg 0))).before args s = true := hq _ (by decide +kernel)
  have hall : (Cond.all (.arg 0) (.isInt (.elem (.arg 0) (.index 0)))).before args s = true := hq _ (by decide +kernel)
  obtain ⟨b, xs, hb, hx⟩ := State.ints_of_pre rfl harr hlen hall
  have hsm : xs.length < 2 ^ 31 := hx.choose_spec.2.2.2
  have hev : (Term.length (.arg 0)).eval args s none [] s = some (.int xs.length.toInt32) := hx.length_eval hb
  have hv := Cond.le_ints hev (show (Term.int 3072).eval args s none [] s = some (.int 3072) from rfl)
  have hd : xs.length.toInt32 ≤ 3072 := by
    simpa [Cond.before, Cond.holds, hv] using hle
  have hN : xs.length ≤ 3072 := (Int32.ofNat_le_ofNat hsm (by decide)).mp (show Int32.ofNat xs.length ≤ Int32.ofNat 3072 from hd)
  exact ⟨b, xs, Cond.one_arg hc (show args[0]? = some (.ref b) from hb), hx, hN, h⟩
theorem lw_comes (l : Launch) (hl0 : l.stackTraces = false) : Comes l x (Jvm.Cond.code x code maxLocals ret :: tables_1) room_1 (fun tb e args s => Calls_1 tb e args s ∧ rest_1 tb e args s ∧ Pre_1 tb e args s)
    (fun _ _ args s o t => lw_Q args s o t) := by
  intro p e ha hc hk s m args below hf hfit hheap happ hpre
  obtain ⟨b, xs, hP⟩ := lw_pre_spec hpre.2.2 hpre.2.1
  obtain ⟨k, o, h1, h2, h3, hQ⟩ := lw_walk l hl0 b xs p e ha hc hk s m args below hf ((Spec.applies_iff_loose hf).mp happ).1 hP trivial
  exact ⟨k, o, h1, h2, h3, hQ⟩
theorem lw_frame {s t : State} {o : Outcome} {args : Array Value} (h : Framed s o t [] 601024 7293033) :
    Framed s o t (fieldLocs frame_1_writes args s ++ arrayLocs frame_1_arrays args s ++ staticLocs frame_1_statics s) 601024 7293033 := h
theorem lw_limb (L : Cond) (hL : ∀ (args : Array Value) (s t : State), L.after args s (.returned (some (.int 1))) t = true) :
    ArmFor flags0 classFile x code maxLocals ret World_1 tables_1 room_1 Calls_1 rest_1 Pre_1
      (fun tb e a s o t => postC L tb e a s o t ∧ Framed s o t (fieldLocs frame_1_writes a s ++ arrayLocs frame_1_arrays a s ++ staticLocs frame_1_statics s) 601024 7293033) := by
  intro l hfl _ _ p e ha hc hk s m args below hf hfit hheap happ hpre
  have hl0 : l.stackTraces = false := by
    unfold Launch.stackTraces
    rw [hfl]
    decide +kernel
  obtain ⟨k, o, h1, h2, h3, rfl, hF⟩ := lw_comes l hl0 p e ha hc hk s m args below hf hfit hheap happ hpre
  exact ⟨k, _, h1, h2, h3, hL args s _, lw_frame hF⟩
theorem i_vc : Claimed_1_1 ∧ Claimed_1_2 := ⟨lw_limb limb_1_1 (fun args s t => by simp [limb_1_1, Cond.after, Cond.holds, Cond.value]), lw_limb limb_1_2 (fun args s t => Cond.after_iff.mpr (by
  first | (rw [show limb_1_2 = Cond.eq .result (.int 1) from rfl, Cond.eq_ints (x := 1) (y := 1) rfl rfl]; simp; done) | (simp [limb_1_2, Cond.value, Term.eval]; done)))⟩
