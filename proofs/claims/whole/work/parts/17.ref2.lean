/-! THE REFERENCE'S MATRICES: longs that are the class's ints -/
def lm (r : mRow) (f : Nat → Int32) : Prop := ∀ t, t < 12 → r.2 t = (f t).toInt64
theorem i_back (x : Int32) : x.toInt64.toInt32 = x := by
  have h1 := Int32.le_toInt x
  have h2 := Int32.toInt_lt x
  apply Int32.toInt_inj.mp
  rw [Int64.toInt_toInt32, Int32.toInt_toInt64]
  exact Int.bmod_eq_of_le (by omega) (by omega)
theorem l_us {f : Nat → Int32} {g : Nat → Int64} {k : Nat} {x : Int64} : ((f, vp_updL g k x) : mRow).2 k = x := pk_uLs
theorem l_un {f : Nat → Int32} {g : Nat → Int64} {k j : Nat} {x : Int64} (h : j ≠ k) : ((f, vp_updL g k x) : mRow).2 j = g j := pk_uLn h
def jacc (a b : Nat → Int32) (i j : Nat) : Nat → Int64
  | 0 => if j = 3 then (a (4 * i + 3)).toInt64 else 0
  | k + 1 => jacc a b i j k + jmul (a (4 * i + k)).toInt64 (b (4 * k + j)).toInt64
theorem jacc_prod (a b : Nat → Int32) (i : Nat) {j : Nat} (hj : j < 4) : jcl (jacc a b i j 3) = (jprod a b i j).toInt64 := by
  unfold jprod
  rw [jcl_back, ← sum_eq a b i j hj]
  rfl
/-- the matrix at place k filled up to t, all else as it was -/
def lfill (M0 M1 : Nat → mRow) (k t : Nat) (F : Nat → Nat → Int32) : Prop := (∀ q, q ≠ k → M1 q = M0 q) ∧ ∀ a b, a < 3 → b < 4 → 4 * a + b < t → (M1 k).2 (4 * a + b) = (F a b).toInt64
theorem lfill.zero {M : Nat → mRow} {k : Nat} {F : Nat → Nat → Int32} : lfill M M k 0 F := ⟨fun _ _ => rfl, fun a b _ _ h => by omega⟩
theorem lfill.le {M0 M1 : Nat → mRow} {k t t' : Nat} {F : Nat → Nat → Int32} (h : lfill M0 M1 k t F) (ht : t' ≤ t) : lfill M0 M1 k t' F := ⟨h.1, fun a b h1 h2 h3 => h.2 a b h1 h2 (by omega)⟩
theorem lfill.step {M0 M1 M2 : Nat → mRow} {k i j : Nat} {r : Int64} {F : Nat → Nat → Int32} (h : lfill M0 M1 k (4 * i + j) F) (e : M2 = va_up M1 k ((M1 k).1, vp_updL (M1 k).2 (4 * i + j) r)) (hr : r = (F i j).toInt64) (hj : j < 4) : lfill M0 M2 k (4 * i + (j + 1)) F := by
  subst e
  refine ⟨fun q hq => by rw [va_up_ne _ _ hq]; exact h.1 q hq, fun a b h1 h2 h3 => ?_⟩
  rw [va_up_self]
  by_cases hq : 4 * a + b = 4 * i + j
  · have h4 : a = i ∧ b = j := by omega
    obtain ⟨rfl, rfl⟩ := h4
    rw [l_us, hr]
  · rw [l_un hq]
    exact h.2 a b h1 h2 (by omega)
theorem lfill.done {M0 M1 : Nat → mRow} {k : Nat} {F : Nat → Nat → Int32} (h : lfill M0 M1 k 12 F) : lm (M1 k) (fun t => F (t / 4) (t % 4)) := by
  intro t ht
  have ht2 : t = 4 * (t / 4) + t % 4 := by omega
  have := h.2 (t / 4) (t % 4) (by omega) (by omega) (by omega)
  rw [← ht2] at this
  exact this
abbrev lc12 (cs : Nat → ClassId) (ad : Nat → Nat) (k : Nat) : Prop := ∀ r : mRow, mc_cell cs ad k r = .inl (cs 3, 12, .inr (.inl r.2))
/-- a copy of the longs of ka at kb, i of them -/
def cInv (M M1 : Nat → mRow) (ka kb i : Nat) : Prop := (∀ q, q ≠ kb → M1 q = M q) ∧ ∀ t, t < i → (M1 kb).2 t = (M ka).2 t
theorem cInv.step {M M1 M2 : Nat → mRow} {ka kb i : Nat} (h : cInv M M1 ka kb i) (hne : ka ≠ kb) (e : M2 = va_up M1 kb ((M1 kb).1, vp_updL (M1 kb).2 i ((M1 ka).2 i))) : cInv M M2 ka kb (i + 1) := by
  subst e
  refine ⟨fun q hq => by rw [va_up_ne _ _ hq]; exact h.1 q hq, fun t ht => ?_⟩
  rw [va_up_self]
  by_cases c : t = i
  · subst c; rw [l_us, h.1 ka hne]
  · rw [l_un c]; exact h.2 t (by omega)
theorem cInv.lm {M M1 : Nat → mRow} {ka kb : Nat} {f : Nat → Int32} (h : cInv M M1 ka kb 12) (hf : lm (M ka) f) : lm (M1 kb) f := fun t ht => (h.2 t ht).trans (hf t ht)
def dInv (M M1 : Nat → mRow) (k i : Nat) : Prop := (∀ q, q ≠ k → M1 q = M q) ∧ ∀ t, t < i → (M1 k).2 t = if t % 5 = 0 then 65536 else 0
theorem dInv.step {M M1 M2 : Nat → mRow} {k i : Nat} {x : Int64} (h : dInv M M1 k i) (e : M2 = va_up M1 k ((M1 k).1, vp_updL (M1 k).2 i x)) (hx : x = if i % 5 = 0 then 65536 else 0) : dInv M M2 k (i + 1) := by
  subst e
  refine ⟨fun q hq => by rw [va_up_ne _ _ hq]; exact h.1 q hq, fun t ht => ?_⟩
  rw [va_up_self]
  by_cases c : t = i
  · subst c; rw [l_us, hx]
  · rw [l_un c]; exact h.2 t (by omega)
theorem axis_done {M M1 M2 M3 M4 M5 : Nat → mRow} {k p q : Nat} {a : Int32} (hpq : (p = 1 ∧ q = 2) ∨ (p = 2 ∧ q = 0) ∨ (p = 0 ∧ q = 1)) (h : dInv M M1 k 12) (e2 : M2 = va_up M1 k ((M1 k).1, vp_updL (M1 k).2 (4 * p + p) (jsin (a + nI 1024)).toInt64)) (e3 : M3 = va_up M2 k ((M2 k).1, vp_updL (M2 k).2 (4 * p + q) (-(jsin a).toInt64))) (e4 : M4 = va_up M3 k ((M3 k).1, vp_updL (M3 k).2 (4 * q + p) (jsin a).toInt64)) (e5 : M5 = va_up M4 k ((M4 k).1, vp_updL (M4 k).2 (4 * q + q) (jsin (a + nI 1024)).toInt64)) : (∀ x, x ≠ k → M5 x = M x) ∧ lm (M5 k) (jspin (fun _ => 0) p q a) := by
  refine ⟨fun x hx => by rw [e5, va_up_ne _ _ hx, e4, va_up_ne _ _ hx, e3, va_up_ne _ _ hx, e2, va_up_ne _ _ hx]; exact h.1 x hx, fun t ht => ?_⟩
  have key : (M5 k).2 t = vp_updL (vp_updL (vp_updL (vp_updL (M1 k).2 (4 * p + p) (jsin (a + nI 1024)).toInt64) (4 * p + q) (-(jsin a).toInt64)) (4 * q + p) (jsin a).toInt64) (4 * q + q) (jsin (a + nI 1024)).toInt64 t := by
    rw [e5, va_up_self, e4, va_up_self, e3, va_up_self, e2, va_up_self]
  rw [key]
  unfold jspin
  have hd := h.2 t ht
  by_cases c5 : t = 4 * q + q
  · subst c5; rw [pk_uLs, pk_us]
  rw [pk_uLn c5, pk_un c5]
  by_cases c4 : t = 4 * q + p
  · subst c4; rw [pk_uLs, pk_us]
  rw [pk_uLn c4, pk_un c4]
  by_cases c3 : t = 4 * p + q
  · subst c3; rw [pk_uLs, pk_us]; exact (neg_back _ (jsin_rng a)).symm
  rw [pk_uLn c3, pk_un c3]
  by_cases c2 : t = 4 * p + p
  · subst c2; rw [pk_uLs, pk_us]
  rw [pk_uLn c2, pk_un c2, hd]
  by_cases c1 : t = 4 * (3 - p - q) + (3 - p - q)
  · rw [if_pos (by omega), c1, pk_us]; rfl
  · rw [if_neg (by omega), pk_un c1]; rfl
theorem nI_z {x : Nat} (h : x < 2147483648) : nI x = 0 ↔ x = 0 := by
  rw [← nI_eq h (by decide : 0 < 2147483648)]; rfl

set_option maxHeartbeats 4000000 in
set_option maxRecDepth 100000 in
theorem kM_bound (l : Launch) (v : Int64) : Met l yM_bound (wc yM_bound cM_bound 2 (some .long)) ({ frames := 0, cells := 0, slots := 0, locals := 0 } : Room) (va_Pc [.long v] (fun _ => True)) (vp_Sl (fun r => r = jcl v)) 0 0 (fun _ => False) := by
  refine Met.ofW (cc := cM_bound) (maxL := 2) (ret := (some .long)) (by decide +kernel) rfl ?_
  intro p e s m args below meth c s₁ B hml hv
  obtain ⟨rfl, -⟩ := hv
  have hx := B.exec
  have hb := B.bytes
  have hr := B.returns
  have hts : ∀ w9 ∈ ws_all, w9.before ([.long v] : List Value).toArray s = true := fun w9 h => atoms_spec (ws := (wc yM_bound cM_bound 2 (some .long))) B.pre w9 (List.mem_cons_of_mem _ h)
  have hown : s.vm.findClass RM = some m.cls := findClass_of_methodNamed B.named
  have hlocks := B.notSynchronized
  have hl := lv_entry ([.long v]) (n := 2) (Nat.le_of_ble_eq_true rfl)
  rw [lg_entry_eq]
  generalize (lg_sl ([.long v]) ++ List.replicate (2 - (lg_sl ([.long v])).length) Slot.unset).toArray = ls at hl ⊢
  have hl : lv_has ls 2 [(0, .long v)] := hl
  refine lv_lload_n hx hb dM_bound_0 rfl (lv_at hl 0 rfl) ?_
  refine lv_ldc2 (own := RM) (index := 70) (v := (-16777216)) hx hb hown (hts _ w_445) dM_bound_1 ?_
  refine W.lcmp hx hb dM_bound_4 ?_
  refine lv_if_ge (tgt := 14) hx hb dM_bound_5 (by decide) (fun c_5 => ?_) (fun c_5 => ?_)
  · skip
    refine lv_lload_n hx hb dM_bound_14 rfl (lv_at hl 0 rfl) ?_
    refine lv_ldc2 (own := RM) (index := 72) (v := 16777216) hx hb hown (hts _ w_446) dM_bound_15 ?_
    refine W.lcmp hx hb dM_bound_18 ?_
    refine lv_if_le (tgt := 28) hx hb dM_bound_19 (by decide) (fun c_19 => ?_) (fun c_19 => ?_)
    · skip
      refine lv_lload_n hx hb dM_bound_28 rfl (lv_at hl 0 rfl) ?_
      exact W.lret (v := v) hx hb hr (fun t ht hW => ⟨_, rfl, jcl_in c_5 c_19, ht⟩) (fun _ h => nomatch h) dM_bound_29
    · skip
      refine lv_ldc2 (own := RM) (index := 72) (v := 16777216) hx hb hown (hts _ w_446) dM_bound_22 ?_
      refine lv_goto (tgt := 29) hx hb dM_bound_25 (by decide) ?_
      exact W.lret (v := 16777216) hx hb hr (fun t ht hW => ⟨_, rfl, jcl_hi c_19, ht⟩) (fun _ h => nomatch h) dM_bound_29
  · skip
    refine lv_ldc2 (own := RM) (index := 70) (v := (-16777216)) hx hb hown (hts _ w_445) dM_bound_8 ?_
    refine lv_goto (tgt := 29) hx hb dM_bound_11 (by decide) ?_
    exact W.lret (v := (-16777216)) hx hb hr (fun t ht hW => ⟨_, rfl, jcl_lo c_5, ht⟩) (fun _ h => nomatch h) dM_bound_29

set_option maxHeartbeats 4000000 in
set_option maxRecDepth 100000 in
theorem kM_sin (l : Launch) (k : Int32) : Met l yM_sin (wc yM_sin cM_sin 6 (some .long)) ({ frames := 0, cells := 0, slots := 0, locals := 0 } : Room) (va_Pc [.int k] (fun _ => True)) (vp_Sl (fun r => r = (jsin k).toInt64)) 0 0 (fun _ => False) := by
  refine Met.ofW (cc := cM_sin) (maxL := 6) (ret := (some .long)) (by decide +kernel) rfl ?_
  intro p e s m args below meth c s₁ B hml hv
  obtain ⟨rfl, -⟩ := hv
  have hx := B.exec
  have hb := B.bytes
  have hr := B.returns
  have hts : ∀ w9 ∈ ws_all, w9.before ([.int k] : List Value).toArray s = true := fun w9 h => atoms_spec (ws := (wc yM_sin cM_sin 6 (some .long))) B.pre w9 (List.mem_cons_of_mem _ h)
  have hown : s.vm.findClass RM = some m.cls := findClass_of_methodNamed B.named
  have hlocks := B.notSynchronized
  have hl := lv_entry ([.int k]) (n := 6) (Nat.le_of_ble_eq_true rfl)
  rw [lg_entry_eq]
  generalize (lg_sl ([.int k]) ++ List.replicate (6 - (lg_sl ([.int k])).length) Slot.unset).toArray = ls at hl ⊢
  have hl : lv_has ls 6 [(0, .int k)] := hl
  have hn0 := jn0_lt k
  have hq0 := jq_le (jn0 k)
  refine lv_iload_n hx hb dM_sin_0 rfl (lv_at hl 0 rfl) ?_
  refine lv_sipush (v := nI 4096) hx hb dM_sin_1 (by decide) ?_
  refine lv_irem hx hb dM_sin_4 (by decide) ?_
  refine lv_sipush (v := nI 4096) hx hb dM_sin_5 (by decide) ?_
  refine lv_iadd hx hb dM_sin_8 ?_
  refine lv_sipush (v := nI 4096) hx hb dM_sin_9 (by decide) ?_
  refine lv_irem hx hb dM_sin_12 (by decide) ?_
  refine ln_asi (nI (jn0 k)) (by exact rem2_val k) ?_
  refine lv_istore_n (lv' := [(1, .int (nI (jn0 k))), (0, .int k)]) hx hb dM_sin_13 rfl hl (by decide) rfl (fun ls hl => ?_)
  refine lv_iload_n hx hb dM_sin_14 rfl (lv_at hl 0 rfl) ?_
  refine lv_sipush (v := nI 2048) hx hb dM_sin_15 (by decide) ?_
  refine lv_irem hx hb dM_sin_18 (by decide) ?_
  refine ln_asi (nI (jn0 k % 2048)) (by exact pk_rem (by omega) (by decide) (by decide)) ?_
  refine lv_i2l (v := (nI (jn0 k % 2048)).toInt64) hx hb dM_sin_19 rfl ?_
  refine lv_sipush (v := nI 2048) hx hb dM_sin_20 (by decide) ?_
  refine lv_iload_n hx hb dM_sin_23 rfl (lv_at hl 0 rfl) ?_
  refine lv_sipush (v := nI 2048) hx hb dM_sin_24 (by decide) ?_
  refine lv_irem hx hb dM_sin_27 (by decide) ?_
  refine ln_asi (nI (jn0 k % 2048)) (by exact pk_rem (by omega) (by decide) (by decide)) ?_
  refine ln_isub hx hb dM_sin_28 (by omega) ?_
  refine lv_i2l (v := (nI (2048 - (jn0 k % 2048))).toInt64) hx hb dM_sin_29 rfl ?_
  refine lv_lmul hx hb dM_sin_30 ?_
  refine ln_asl (lN (jq (jn0 k))) (by rw [nI_l (by omega), nI_l (by omega), lN_mul]; rfl) ?_
  refine lv_lstore_n (lv' := [(2, .long (lN (jq (jn0 k)))), (1, .int (nI (jn0 k))), (0, .int k)]) hx hb dM_sin_31 rfl hl (by decide) rfl (fun ls hl => ?_)
  refine lv_ldc2 (own := RM) (index := 74) (v := 1048576) hx hb hown (hts _ w_432) dM_sin_32 ?_
  refine lv_lload_n hx hb dM_sin_35 rfl (lv_at hl 0 rfl) ?_
  refine lv_lmul hx hb dM_sin_36 ?_
  refine lv_ldc2 (own := RM) (index := 76) (v := 20971520) hx hb hown (hts _ w_433) dM_sin_37 ?_
  refine lv_ldc2 (own := RM) (index := 78) (v := 4) hx hb hown (hts _ w_434) dM_sin_40 ?_
  refine lv_lload_n hx hb dM_sin_43 rfl (lv_at hl 0 rfl) ?_
  refine lv_lmul hx hb dM_sin_44 ?_
  refine lv_lsub hx hb dM_sin_45 ?_
  refine ln_asl (lN (20971520 - 4 * jq (jn0 k))) (by show lN 20971520 - lN 4 * lN (jq (jn0 k)) = _; rw [lN_mul, lN_sub (by omega)]) ?_
  refine lv_ldiv hx hb dM_sin_46 (fun q => absurd ((pk_lEQ (by omega) (by decide : 0 < 9223372036854775808)).mp (show lN (20971520 - 4 * jq (jn0 k)) = lN 0 from q)) (by omega)) ?_
  refine ln_asl (lN (js (jn0 k))) (by show lN 1048576 * lN (jq (jn0 k)) / lN (20971520 - 4 * jq (jn0 k)) = _; rw [lN_mul, pk_lDiv (by omega) (by omega) (by omega)]; rfl) ?_
  refine lv_lstore (lv' := [(4, .long (lN (js (jn0 k)))), (2, .long (lN (jq (jn0 k)))), (1, .int (nI (jn0 k))), (0, .int k)]) hx hb dM_sin_47 hl (by decide) rfl (fun ls hl => ?_)
  refine lv_iload_n hx hb dM_sin_49 rfl (lv_at hl 2 rfl) ?_
  refine lv_sipush (v := nI 2048) hx hb dM_sin_50 (by decide) ?_
  refine ln_icmp_ge (tgt := 61) hx hb dM_sin_53 (by decide) (by omega) (by omega) (fun c_53 => ?_) (fun c_53 => ?_)
  · skip
    refine lv_lload hx hb dM_sin_61 (lv_at hl 0 rfl) ?_
    refine lv_lneg hx hb dM_sin_63 ?_
    exact W.lret (v := -(lN (js (jn0 k)))) hx hb hr (fun t ht hW => ⟨_, rfl, by rw [jsin_val, if_pos c_53], ht⟩) (fun _ h => nomatch h) dM_sin_64
  · skip
    refine lv_lload hx hb dM_sin_56 (lv_at hl 0 rfl) ?_
    refine lv_goto (tgt := 64) hx hb dM_sin_58 (by decide) ?_
    exact W.lret (v := lN (js (jn0 k))) hx hb hr (fun t ht hW => ⟨_, rfl, by rw [jsin_val, if_neg (by omega)], ht⟩) (fun _ h => nomatch h) dM_sin_64

set_option maxHeartbeats 4000000 in
set_option maxRecDepth 100000 in
theorem kM_cos (l : Launch) (k : Int32) : Met l yM_cos (wc yM_cos cM_cos 1 (some .long)) ({ frames := 1, cells := 0, slots := 0, locals := 25 } : Room) (va_Pc [.int k] (fun _ => True)) (vp_Sl (fun r => r = (jsin (k + nI 1024)).toInt64)) 0 0 (fun _ => False) := by
  refine Met.ofW (cc := cM_cos) (maxL := 1) (ret := (some .long)) (by decide +kernel) rfl ?_
  intro p e s m args below meth c s₁ B hml hv
  obtain ⟨rfl, -⟩ := hv
  have hx := B.exec
  have hb := B.bytes
  have hr := B.returns
  have hts : ∀ w9 ∈ ws_all, w9.before ([.int k] : List Value).toArray s = true := fun w9 h => atoms_spec (ws := (wc yM_cos cM_cos 1 (some .long))) B.pre w9 (List.mem_cons_of_mem _ h)
  have hown : s.vm.findClass RM = some m.cls := findClass_of_methodNamed B.named
  have hlocks := B.notSynchronized
  have hl := lv_entry ([.int k]) (n := 1) (Nat.le_of_ble_eq_true rfl)
  rw [lg_entry_eq]
  generalize (lg_sl ([.int k]) ++ List.replicate (1 - (lg_sl ([.int k])).length) Slot.unset).toArray = ls at hl ⊢
  have hl : lv_has ls 1 [(0, .int k)] := hl
  refine lv_iload_n hx hb dM_cos_0 rfl (lv_at hl 0 rfl) ?_
  refine lv_sipush (v := nI 1024) hx hb dM_cos_1 (by decide) ?_
  refine lv_iadd hx hb dM_cos_4 ?_
  refine vp_callSl (va_Run.run (bc_runS (own := RM) (As := [.int (k + (nI 1024))]) (rest := []) hx hb (hml.trans hl.1.symm) hown hts (kM_sin l (k + nI 1024)) w_431 w_429 w_430 w_4 hd_M_sin rfl ⟨rfl, rfl⟩ ⟨Nat.le_of_ble_eq_true rfl, Nat.le_of_ble_eq_true rfl⟩ (fun _ _ _ _ _ => trivial) (fun _ _ _ => trivial) rfl (Nat.le_of_ble_eq_true rfl) dM_cos_5 ⟨Nat.le_of_ble_eq_true rfl, Nat.le_of_ble_eq_true rfl⟩)) (fun r_5 hr_5 => ?_)
  exact W.lret (v := r_5) hx hb hr (fun t ht hW => ⟨_, rfl, hr_5, ht⟩) (fun _ h => nomatch h) dM_cos_8

set_option maxHeartbeats 4000000 in
set_option maxRecDepth 100000 in
theorem kM_times (l : Launch) (D : va_G) (cs : Nat → ClassId) (ad : Nat → Nat) (hI : bw_I ad 13) (M : Nat → mRow) (sz : Nat) (a b : Nat → Int32) (ha : lm (M 8) a) (hb0 : lm (M 9) b)  : Met l yM_times (wc yM_times cM_times 6 none) ({ frames := 1, cells := 0, slots := 0, locals := 23 } : Room) (va_Pc [.ref (ad 0)] (mP D cs ad M sz)) (bQv D ad 13 (mc_cell cs ad) sz (fun M1 => (∀ q, q ≠ 7 → M1 q = M q) ∧ lm (M1 7) (jmat a b))) 0 0 (bw_A ad 13 sz) := by
  refine Met.ofW (cc := cM_times) (maxL := 6) (ret := none) (by decide +kernel) rfl ?_
  intro p e s m args below meth c s₁ B hml hv
  obtain ⟨rfl, hsz, hP, hE⟩ := hv
  subst hsz
  have hx := B.exec
  have hb := B.bytes
  have hr := B.returns
  have hts : ∀ w9 ∈ ws_all, w9.before ([.ref (ad 0)] : List Value).toArray s = true := fun w9 h => atoms_spec (ws := (wc yM_times cM_times 6 none)) B.pre w9 (List.mem_cons_of_mem _ h)
  have hown : s.vm.findClass RM = some m.cls := findClass_of_methodNamed B.named
  have hlocks := B.notSynchronized
  have hS : va_S (bw_A ad 13 s.heap.size) s.heap s.heap [] := va_S.rf
  have hl := lv_entry ([.ref (ad 0)]) (n := 6) (Nat.le_of_ble_eq_true rfl)
  rw [lg_entry_eq]
  generalize (lg_sl ([.ref (ad 0)]) ++ List.replicate (6 - (lg_sl ([.ref (ad 0)])).length) Slot.unset).toArray = ls at hl ⊢
  have hl : lv_has ls 6 [(0, .ref (ad 0))] := hl
  have loop : ∀ kf : Nat, (∀ (i : Nat)  (M1 : Nat → mRow) (H : Heap) (locs : List Loc) (ls : Array Slot), i ≤ 3 → lfill M M1 7 (4 * i) (jprod a b) → 40 * (3 - i) < kf → va_P D cls3 (bw ad 13 (fun j => mc_cell cs ad j (M1 j))) H → va_S (bw_A ad 13 s.heap.size) s.heap H locs → lv_has ls 6 [(1, .int (nI i)), (0, .ref (ad 0))] → W p l e (headSpec (wc yM_times cM_times 6 none) ({ frames := 1, cells := 0, slots := 0, locals := 23 } : Room)).room s m ([.ref (ad 0)] : List Value).toArray below meth c H locs 0 0 (MQ below (bQv D ad 13 (mc_cell cs ad) s.heap.size (fun M1 => (∀ q, q ≠ 7 → M1 q = M q) ∧ lm (M1 7) (jmat a b))) ([.ref (ad 0)] : List Value).toArray s 0 0 (bw_A ad 13 s.heap.size)) (F0 m 2 ls [])) ∧ (∀ (i : Nat) (j : Nat)  (M1 : Nat → mRow) (H : Heap) (locs : List Loc) (ls : Array Slot), i < 3 → j ≤ 4 → lfill M M1 7 (4 * i + j) (jprod a b) → 40 * (3 - i) - 1 - 6 * j < kf → va_P D cls3 (bw ad 13 (fun j => mc_cell cs ad j (M1 j))) H → va_S (bw_A ad 13 s.heap.size) s.heap H locs → lv_has ls 6 [(1, .int (nI i)), (2, .int (nI j)), (0, .ref (ad 0))] → W p l e (headSpec (wc yM_times cM_times 6 none) ({ frames := 1, cells := 0, slots := 0, locals := 23 } : Room)).room s m ([.ref (ad 0)] : List Value).toArray below meth c H locs 0 0 (MQ below (bQv D ad 13 (mc_cell cs ad) s.heap.size (fun M1 => (∀ q, q ≠ 7 → M1 q = M q) ∧ lm (M1 7) (jmat a b))) ([.ref (ad 0)] : List Value).toArray s 0 0 (bw_A ad 13 s.heap.size)) (F0 m 9 ls [])) ∧ (∀ (i : Nat) (j : Nat) (k : Nat)  (M1 : Nat → mRow) (H : Heap) (locs : List Loc) (ls : Array Slot), i < 3 → j < 4 → k ≤ 3 → lfill M M1 7 (4 * i + j) (jprod a b) → 40 * (3 - i) - 1 - 6 * j - 1 - k < kf → va_P D cls3 (bw ad 13 (fun j => mc_cell cs ad j (M1 j))) H → va_S (bw_A ad 13 s.heap.size) s.heap H locs → lv_has ls 6 [(1, .int (nI i)), (2, .int (nI j)), (5, .int (nI k)), (0, .ref (ad 0)), (3, .long (jacc a b i j k))] → W p l e (headSpec (wc yM_times cM_times 6 none) ({ frames := 1, cells := 0, slots := 0, locals := 23 } : Room)).room s m ([.ref (ad 0)] : List Value).toArray below meth c H locs 0 0 (MQ below (bQv D ad 13 (mc_cell cs ad) s.heap.size (fun M1 => (∀ q, q ≠ 7 → M1 q = M q) ∧ lm (M1 7) (jmat a b))) ([.ref (ad 0)] : List Value).toArray s 0 0 (bw_A ad 13 s.heap.size)) (F0 m 37 ls [])) := by
    intro kf
    induction kf with
    | zero => exact ⟨by intros; omega, by intros; omega, by intros; omega⟩
    | succ kf ih =>
      refine ⟨?_, ?_, ?_⟩
      · skip
        intro i  M1 H locs ls hi hinv hmu hP hS hl
        refine lv_iload_n hx hb dM_times_2 rfl (lv_at hl 0 rfl) ?_
        refine lv_iconst (v := nI 3) hx hb dM_times_3 (by decide) ?_
        refine ln_icmp_ge (tgt := 103) hx hb dM_times_4 (by decide) (by omega) (by omega) (fun c_4 => ?_) (fun c_4 => ?_)
        · skip
          exact W.vret hx hb hr (fun t ht hW => ⟨⟨M1, rfl, ⟨hinv.1, lfill.done (hinv.le (by omega))⟩, by show va_P _ _ _ t.heap; rw [ht]; exact hP⟩, hS.F ht⟩) hS.2.2 dM_times_103
        · skip
          refine lv_iconst (v := nI 0) hx hb dM_times_7 (by decide) ?_
          refine lv_istore_n (lv' := [(2, .int (nI 0)), (1, .int (nI i)), (0, .ref (ad 0))]) hx hb dM_times_8 rfl hl (by decide) rfl (fun ls hl => ?_)
          exact ih.2.1 i 0  M1 H locs ls (by omega) (by omega) (hinv) (by omega) hP hS (lv_sub hl [1, 0, 2] rfl)
      · skip
        intro i j  M1 H locs ls hi hj0 hinv hmu hP hS hl
        refine lv_iload_n hx hb dM_times_9 rfl (lv_at hl 1 rfl) ?_
        refine lv_iconst (v := nI 4) hx hb dM_times_10 (by decide) ?_
        refine ln_icmp_ge (tgt := 97) hx hb dM_times_11 (by decide) (by omega) (by omega) (fun c_11 => ?_) (fun c_11 => ?_)
        · skip
          refine lv_iinc (v := nI (i + 1)) (lv' := [(1, .int (nI (i + 1))), (2, .int (nI j)), (0, .ref (ad 0))]) hx hb dM_times_97 hl (k := 0) rfl (nI_add i 1) (by decide) rfl (fun ls hl => ?_)
          refine lv_goto (tgt := 2) hx hb dM_times_100 (by decide) ?_
          exact ih.1 (i + 1)  M1 H locs ls (by omega) (hinv.le (by omega)) (by omega) hP hS (lv_sub hl [0, 2] rfl)
        · skip
          refine lv_iload_n hx hb dM_times_14 rfl (lv_at hl 1 rfl) ?_
          refine lv_iconst (v := nI 3) hx hb dM_times_15 (by decide) ?_
          refine ln_icmp_ne (tgt := 32) hx hb dM_times_16 (by decide) (by omega) (by omega) (fun c_16 => ?_) (fun c_16 => ?_)
          · skip
            refine lv_lconst (v := 0) hx hb dM_times_32 (by decide) ?_
            refine ln_asl (jacc a b i j 0) (by unfold jacc; rw [if_neg c_16]) ?_
            refine lv_lstore_n (lv' := [(3, .long (jacc a b i j 0)), (1, .int (nI i)), (2, .int (nI j)), (0, .ref (ad 0))]) hx hb dM_times_33 rfl hl (by decide) rfl (fun ls hl => ?_)
            refine lv_iconst (v := nI 0) hx hb dM_times_34 (by decide) ?_
            refine lv_istore (lv' := [(5, .int (nI 0)), (3, .long (jacc a b i j 0)), (1, .int (nI i)), (2, .int (nI j)), (0, .ref (ad 0))]) hx hb dM_times_35 hl (by decide) rfl (fun ls hl => ?_)
            exact ih.2.2 i j 0  M1 H locs ls (by omega) (by omega) (by omega) (hinv) (by omega) hP hS (lv_sub hl [2, 3, 0, 4, 1] rfl)
          · skip
            refine lv_aload_n hx hb dM_times_19 rfl (lv_at hl 2 rfl) ?_
            refine bw_get (own := RM) (ci := 2) (C := RM) (T := TM) (N := 14) (v := .ref (ad 8)) hx hb hts inM hown hE hP 0 (by decide) rfl rfl 9 (by decide) w_325 rfl rfl dM_times_20 ?_
            refine lv_iconst (v := nI 4) hx hb dM_times_23 (by decide) ?_
            refine lv_iload_n hx hb dM_times_24 rfl (lv_at hl 0 rfl) ?_
            refine ln_imul hx hb dM_times_25 ?_
            refine lv_iconst (v := nI 3) hx hb dM_times_26 (by decide) ?_
            refine ln_iadd hx hb dM_times_27 ?_
            refine ln_lald (L := 12) (g := (M1 8).2) hx hb hE hP 8 3 (by decide) (rfl) rfl (by omega) (by decide) dM_times_28 ?_
            refine lv_goto (tgt := 33) hx hb dM_times_29 (by decide) ?_
            refine ln_asl (jacc a b i j 0) (by rw [hinv.1 8 (by decide), ha (4 * i + 3) (by omega)]; unfold jacc; rw [if_pos c_16]) ?_
            refine lv_lstore_n (lv' := [(3, .long (jacc a b i j 0)), (1, .int (nI i)), (2, .int (nI j)), (0, .ref (ad 0))]) hx hb dM_times_33 rfl hl (by decide) rfl (fun ls hl => ?_)
            refine lv_iconst (v := nI 0) hx hb dM_times_34 (by decide) ?_
            refine lv_istore (lv' := [(5, .int (nI 0)), (3, .long (jacc a b i j 0)), (1, .int (nI i)), (2, .int (nI j)), (0, .ref (ad 0))]) hx hb dM_times_35 hl (by decide) rfl (fun ls hl => ?_)
            exact ih.2.2 i j 0  M1 H locs ls (by omega) (by omega) (by omega) (hinv) (by omega) hP hS (lv_sub hl [2, 3, 0, 4, 1] rfl)
      · skip
        intro i j k  M1 H locs ls hi hj0 hk0 hinv hmu hP hS hl
        refine lv_iload hx hb dM_times_37 (lv_at hl 2 rfl) ?_
        refine lv_iconst (v := nI 3) hx hb dM_times_39 (by decide) ?_
        refine ln_icmp_ge (tgt := 77) hx hb dM_times_40 (by decide) (by omega) (by omega) (fun c_40 => ?_) (fun c_40 => ?_)
        · skip
          refine lv_aload_n hx hb dM_times_77 rfl (lv_at hl 3 rfl) ?_
          refine bw_get (own := RM) (ci := 2) (C := RM) (T := TM) (N := 14) (v := .ref (ad 7)) hx hb hts inM hown hE hP 0 (by decide) rfl rfl 8 (by decide) w_324 rfl rfl dM_times_78 ?_
          refine lv_iconst (v := nI 4) hx hb dM_times_81 (by decide) ?_
          refine lv_iload_n hx hb dM_times_82 rfl (lv_at hl 0 rfl) ?_
          refine ln_imul hx hb dM_times_83 ?_
          refine lv_iload_n hx hb dM_times_84 rfl (lv_at hl 1 rfl) ?_
          refine ln_iadd hx hb dM_times_85 ?_
          refine lv_lload_n hx hb dM_times_86 rfl (lv_at hl 4 rfl) ?_
          refine vp_callSl (va_Run.run (bc_runS (own := RM) (As := [.long (jacc a b i j k)]) (rest := [.int (nI ((4 * i) + j)), .ref (ad 7)]) hx hb (hml.trans hl.1.symm) hown hts (kM_bound l (jacc a b i j k)) w_444 w_442 w_443 w_4 hd_M_bound rfl ⟨rfl, rfl⟩ ⟨Nat.le_of_ble_eq_true rfl, Nat.le_of_ble_eq_true rfl⟩ (fun _ _ _ _ _ => trivial) (fun _ _ _ => trivial) rfl (Nat.le_of_ble_eq_true rfl) dM_times_87 ⟨Nat.le_of_ble_eq_true rfl, Nat.le_of_ble_eq_true rfl⟩)) (fun r_87 hr_87 => ?_)
          refine ln_last (L := 12) hx hb hE hI hP hS 7 3 (by decide) (rfl) rfl (by omega) (by decide) (((M1 7).1, vp_updL (M1 7).2 ((4 * i) + j) r_87)) (rfl) dM_times_90 (fun M_1 H locs eM_1 hP hS => ?_)
          refine lv_iinc (v := nI (j + 1)) (lv' := [(2, .int (nI (j + 1))), (1, .int (nI i)), (5, .int (nI k)), (0, .ref (ad 0)), (3, .long (jacc a b i j k))]) hx hb dM_times_91 hl (k := 1) rfl (nI_add j 1) (by decide) rfl (fun ls hl => ?_)
          refine lv_goto (tgt := 9) hx hb dM_times_94 (by decide) ?_
          exact ih.2.1 i (j + 1)  M_1 H locs ls (by omega) (by omega) (hinv.step eM_1 (by rw [hr_87, show k = 3 by omega]; exact jacc_prod a b i (by omega)) (by omega)) (by omega) hP hS (lv_sub hl [1, 0, 3] rfl)
        · skip
          refine lv_lload_n hx hb dM_times_43 rfl (lv_at hl 4 rfl) ?_
          refine lv_aload_n hx hb dM_times_44 rfl (lv_at hl 3 rfl) ?_
          refine bw_get (own := RM) (ci := 2) (C := RM) (T := TM) (N := 14) (v := .ref (ad 8)) hx hb hts inM hown hE hP 0 (by decide) rfl rfl 9 (by decide) w_325 rfl rfl dM_times_45 ?_
          refine lv_iconst (v := nI 4) hx hb dM_times_48 (by decide) ?_
          refine lv_iload_n hx hb dM_times_49 rfl (lv_at hl 0 rfl) ?_
          refine ln_imul hx hb dM_times_50 ?_
          refine lv_iload hx hb dM_times_51 (lv_at hl 2 rfl) ?_
          refine ln_iadd hx hb dM_times_53 ?_
          refine ln_lald (L := 12) (g := (M1 8).2) hx hb hE hP 8 3 (by decide) (rfl) rfl (by omega) (by decide) dM_times_54 ?_
          refine lv_aload_n hx hb dM_times_55 rfl (lv_at hl 3 rfl) ?_
          refine bw_get (own := RM) (ci := 2) (C := RM) (T := TM) (N := 14) (v := .ref (ad 9)) hx hb hts inM hown hE hP 0 (by decide) rfl rfl 10 (by decide) w_326 rfl rfl dM_times_56 ?_
          refine lv_iconst (v := nI 4) hx hb dM_times_59 (by decide) ?_
          refine lv_iload hx hb dM_times_60 (lv_at hl 2 rfl) ?_
          refine ln_imul hx hb dM_times_62 ?_
          refine lv_iload_n hx hb dM_times_63 rfl (lv_at hl 1 rfl) ?_
          refine ln_iadd hx hb dM_times_64 ?_
          refine ln_lald (L := 12) (g := (M1 9).2) hx hb hE hP 9 3 (by decide) (rfl) rfl (by omega) (by decide) dM_times_65 ?_
          refine vp_callSl (va_Run.run (bc_runS (own := RM) (As := [.long ((M1 8).2 ((4 * i) + k)), .long ((M1 9).2 ((4 * k) + j))]) (rest := [.long (jacc a b i j k)]) hx hb (hml.trans hl.1.symm) hown hts (kM_mul l ((M1 8).2 ((4 * i) + k)) ((M1 9).2 ((4 * k) + j))) w_441 w_439 w_440 w_4 hd_M_mul rfl ⟨rfl, rfl⟩ ⟨Nat.le_of_ble_eq_true rfl, Nat.le_of_ble_eq_true rfl⟩ (fun _ _ _ _ _ => trivial) (fun _ _ _ => trivial) rfl (Nat.le_of_ble_eq_true rfl) dM_times_66 ⟨Nat.le_of_ble_eq_true rfl, Nat.le_of_ble_eq_true rfl⟩)) (fun r_66 hr_66 => ?_)
          refine lv_ladd hx hb dM_times_69 ?_
          refine ln_asl (jacc a b i j (k + 1)) (by rw [hr_66, hinv.1 8 (by decide), hinv.1 9 (by decide), ha (4 * i + k) (by omega), hb0 (4 * k + j) (by omega)]; rfl) ?_
          refine lv_lstore_n (lv' := [(3, .long (jacc a b i j (k + 1))), (1, .int (nI i)), (2, .int (nI j)), (5, .int (nI k)), (0, .ref (ad 0))]) hx hb dM_times_70 rfl hl (by decide) rfl (fun ls hl => ?_)
          refine lv_iinc (v := nI (k + 1)) (lv' := [(5, .int (nI (k + 1))), (3, .long (jacc a b i j (k + 1))), (1, .int (nI i)), (2, .int (nI j)), (0, .ref (ad 0))]) hx hb dM_times_71 hl (k := 3) rfl (nI_add k 1) (by decide) rfl (fun ls hl => ?_)
          refine lv_goto (tgt := 37) hx hb dM_times_74 (by decide) ?_
          exact ih.2.2 i j (k + 1)  M1 H locs ls (by omega) (by omega) (by omega) (hinv) (by omega) hP hS (lv_sub hl [2, 3, 0, 4, 1] rfl)
  refine lv_iconst (v := nI 0) hx hb dM_times_0 (by decide) ?_
  refine lv_istore_n (lv' := [(1, .int (nI 0)), (0, .ref (ad 0))]) hx hb dM_times_1 rfl hl (by decide) rfl (fun ls hl => ?_)
  exact (loop 100000).1 0  M s.heap [] ls (by omega) (lfill.zero) (by omega) hP hS (lv_sub hl [0, 1] rfl)

set_option maxHeartbeats 4000000 in
set_option maxRecDepth 100000 in
theorem kM_copy (l : Launch) (D : va_G) (cs : Nat → ClassId) (ad : Nat → Nat) (hI : bw_I ad 13) (M : Nat → mRow) (sz : Nat) (ka kb : Nat) (hka : ka < 13) (hkb : kb < 13) (fa : lc12 cs ad ka) (fb : lc12 cs ad kb) (hne : ka ≠ kb)  : Met l yM_copy (wc yM_copy cM_copy 3 none) ({ frames := 0, cells := 0, slots := 0, locals := 0 } : Room) (va_Pc [.ref (ad ka), .ref (ad kb)] (mP D cs ad M sz)) (bQv D ad 13 (mc_cell cs ad) sz (fun M1 => cInv M M1 ka kb 12)) 0 0 (bw_A ad 13 sz) := by
  refine Met.ofW (cc := cM_copy) (maxL := 3) (ret := none) (by decide +kernel) rfl ?_
  intro p e s m args below meth c s₁ B hml hv
  obtain ⟨rfl, hsz, hP, hE⟩ := hv
  subst hsz
  have hx := B.exec
  have hb := B.bytes
  have hr := B.returns
  have hts : ∀ w9 ∈ ws_all, w9.before ([.ref (ad ka), .ref (ad kb)] : List Value).toArray s = true := fun w9 h => atoms_spec (ws := (wc yM_copy cM_copy 3 none)) B.pre w9 (List.mem_cons_of_mem _ h)
  have hown : s.vm.findClass RM = some m.cls := findClass_of_methodNamed B.named
  have hlocks := B.notSynchronized
  have hS : va_S (bw_A ad 13 s.heap.size) s.heap s.heap [] := va_S.rf
  have hl := lv_entry ([.ref (ad ka), .ref (ad kb)]) (n := 3) (Nat.le_of_ble_eq_true rfl)
  rw [lg_entry_eq]
  generalize (lg_sl ([.ref (ad ka), .ref (ad kb)]) ++ List.replicate (3 - (lg_sl ([.ref (ad ka), .ref (ad kb)])).length) Slot.unset).toArray = ls at hl ⊢
  have hl : lv_has ls 3 [(0, .ref (ad ka)), (1, .ref (ad kb))] := hl
  have loop : ∀ kf : Nat, (∀ (i : Nat)  (M1 : Nat → mRow) (H : Heap) (locs : List Loc) (ls : Array Slot), i ≤ 12 → cInv M M1 ka kb i → 12 - i < kf → va_P D cls3 (bw ad 13 (fun j => mc_cell cs ad j (M1 j))) H → va_S (bw_A ad 13 s.heap.size) s.heap H locs → lv_has ls 3 [(2, .int (nI i)), (0, .ref (ad ka)), (1, .ref (ad kb))] → W p l e (headSpec (wc yM_copy cM_copy 3 none) ({ frames := 0, cells := 0, slots := 0, locals := 0 } : Room)).room s m ([.ref (ad ka), .ref (ad kb)] : List Value).toArray below meth c H locs 0 0 (MQ below (bQv D ad 13 (mc_cell cs ad) s.heap.size (fun M1 => cInv M M1 ka kb 12)) ([.ref (ad ka), .ref (ad kb)] : List Value).toArray s 0 0 (bw_A ad 13 s.heap.size)) (F0 m 2 ls [])) := by
    intro kf
    induction kf with
    | zero => exact by intros; omega
    | succ kf ih =>
      intro i  M1 H locs ls hi hinv hmu hP hS hl
      refine lv_iload_n hx hb dM_copy_2 rfl (lv_at hl 0 rfl) ?_
      refine lv_bipush (v := nI 12) hx hb dM_copy_3 (by decide) ?_
      refine ln_icmp_ge (tgt := 20) hx hb dM_copy_5 (by decide) (by omega) (by omega) (fun c_5 => ?_) (fun c_5 => ?_)
      · skip
        exact W.vret hx hb hr (fun t ht hW => ⟨⟨M1, rfl, by rw [show i = 12 by omega] at hinv; exact hinv, by show va_P _ _ _ t.heap; rw [ht]; exact hP⟩, hS.F ht⟩) hS.2.2 dM_copy_20
      · skip
        refine lv_aload_n hx hb dM_copy_8 rfl (lv_at hl 2 rfl) ?_
        refine lv_iload_n hx hb dM_copy_9 rfl (lv_at hl 0 rfl) ?_
        refine lv_aload_n hx hb dM_copy_10 rfl (lv_at hl 1 rfl) ?_
        refine lv_iload_n hx hb dM_copy_11 rfl (lv_at hl 0 rfl) ?_
        refine ln_lald (L := 12) (g := (M1 ka).2) hx hb hE hP ka 3 (hka) (fa _) rfl (by omega) (by decide) dM_copy_12 ?_
        refine ln_last (L := 12) hx hb hE hI hP hS kb 3 (hkb) (fb _) rfl (by omega) (by decide) (((M1 kb).1, vp_updL (M1 kb).2 i ((M1 ka).2 i))) (fb _) dM_copy_13 (fun M_1 H locs eM_1 hP hS => ?_)
        refine lv_iinc (v := nI (i + 1)) (lv' := [(2, .int (nI (i + 1))), (0, .ref (ad ka)), (1, .ref (ad kb))]) hx hb dM_copy_14 hl (k := 0) rfl (nI_add i 1) (by decide) rfl (fun ls hl => ?_)
        refine lv_goto (tgt := 2) hx hb dM_copy_17 (by decide) ?_
        exact ih (i + 1)  M_1 H locs ls (by omega) (hinv.step hne eM_1) (by omega) hP hS (lv_sub hl [0, 1, 2] rfl)
  refine lv_iconst (v := nI 0) hx hb dM_copy_0 (by decide) ?_
  refine lv_istore_n (lv' := [(2, .int (nI 0)), (0, .ref (ad ka)), (1, .ref (ad kb))]) hx hb dM_copy_1 rfl hl (by decide) rfl (fun ls hl => ?_)
  exact (loop 100000) 0  M s.heap [] ls (by omega) (⟨fun _ _ => rfl, fun t ht => by omega⟩) (by omega) hP hS (lv_sub hl [0, 1, 2] rfl)

set_option maxHeartbeats 4000000 in
set_option maxRecDepth 100000 in
theorem kM_axis0 (l : Launch) (D : va_G) (cs : Nat → ClassId) (ad : Nat → Nat) (hI : bw_I ad 13) (M : Nat → mRow) (sz : Nat) (kc : Nat) (hkc : kc < 13) (fc : lc12 cs ad kc) (a : Int32)  : Met l yM_axis (wc yM_axis cM_axis 5 none) ({ frames := 2, cells := 0, slots := 0, locals := 45 } : Room) (va_Pc [.ref (ad kc), .int (nI 0), .int a] (mP D cs ad M sz)) (bQv D ad 13 (mc_cell cs ad) sz (fun M1 => (∀ x, x ≠ kc → M1 x = M x) ∧ lm (M1 kc) (jspin (fun _ => 0) 1 2 a))) 0 0 (bw_A ad 13 sz) := by
  refine Met.ofW (cc := cM_axis) (maxL := 5) (ret := none) (by decide +kernel) rfl ?_
  intro p e s m args below meth c s₁ B hml hv
  obtain ⟨rfl, hsz, hP, hE⟩ := hv
  subst hsz
  have hx := B.exec
  have hb := B.bytes
  have hr := B.returns
  have hts : ∀ w9 ∈ ws_all, w9.before ([.ref (ad kc), .int (nI 0), .int a] : List Value).toArray s = true := fun w9 h => atoms_spec (ws := (wc yM_axis cM_axis 5 none)) B.pre w9 (List.mem_cons_of_mem _ h)
  have hown : s.vm.findClass RM = some m.cls := findClass_of_methodNamed B.named
  have hlocks := B.notSynchronized
  have hS : va_S (bw_A ad 13 s.heap.size) s.heap s.heap [] := va_S.rf
  have hl := lv_entry ([.ref (ad kc), .int (nI 0), .int a]) (n := 5) (Nat.le_of_ble_eq_true rfl)
  rw [lg_entry_eq]
  generalize (lg_sl ([.ref (ad kc), .int (nI 0), .int a]) ++ List.replicate (5 - (lg_sl ([.ref (ad kc), .int (nI 0), .int a])).length) Slot.unset).toArray = ls at hl ⊢
  have hl : lv_has ls 5 [(0, .ref (ad kc)), (1, .int (nI 0)), (2, .int a)] := hl
  have loop : ∀ kf : Nat, (∀ (i : Nat)  (M1 : Nat → mRow) (H : Heap) (locs : List Loc) (ls : Array Slot), i ≤ 12 → dInv M M1 kc i → 12 - i < kf → va_P D cls3 (bw ad 13 (fun j => mc_cell cs ad j (M1 j))) H → va_S (bw_A ad 13 s.heap.size) s.heap H locs → lv_has ls 5 [(3, .int (nI i)), (0, .ref (ad kc)), (1, .int (nI 0)), (2, .int a)] → W p l e (headSpec (wc yM_axis cM_axis 5 none) ({ frames := 2, cells := 0, slots := 0, locals := 45 } : Room)).room s m ([.ref (ad kc), .int (nI 0), .int a] : List Value).toArray below meth c H locs 0 0 (MQ below (bQv D ad 13 (mc_cell cs ad) s.heap.size (fun M1 => (∀ x, x ≠ kc → M1 x = M x) ∧ lm (M1 kc) (jspin (fun _ => 0) 1 2 a))) ([.ref (ad kc), .int (nI 0), .int a] : List Value).toArray s 0 0 (bw_A ad 13 s.heap.size)) (F0 m 2 ls [])) := by
    intro kf
    induction kf with
    | zero => exact by intros; omega
    | succ kf ih =>
      intro i  M1 H locs ls hi hinv hmu hP hS hl
      refine lv_iload_n hx hb dM_axis_2 rfl (lv_at hl 0 rfl) ?_
      refine lv_bipush (v := nI 12) hx hb dM_axis_3 (by decide) ?_
      refine ln_icmp_ge (tgt := 30) hx hb dM_axis_5 (by decide) (by omega) (by omega) (fun c_5 => ?_) (fun c_5 => ?_)
      · skip
        refine lv_iload_n hx hb dM_axis_30 rfl (lv_at hl 2 rfl) ?_
        refine lv_if_ne (tgt := 38) hx hb dM_axis_31 (by decide) (fun c_31 => ?_) (fun c_31 => ?_)
        · skip
          exact absurd (by decide) c_31
        · skip
          refine lv_iconst (v := nI 1) hx hb dM_axis_34 (by decide) ?_
          refine lv_goto (tgt := 48) hx hb dM_axis_35 (by decide) ?_
          refine lv_istore_n (lv' := [(3, .int (nI 1)), (0, .ref (ad kc)), (1, .int (nI 0)), (2, .int a)]) hx hb dM_axis_48 rfl hl (by decide) rfl (fun ls hl => ?_)
          refine lv_iload_n hx hb dM_axis_49 rfl (lv_at hl 2 rfl) ?_
          refine lv_if_ne (tgt := 57) hx hb dM_axis_50 (by decide) (fun c_50 => ?_) (fun c_50 => ?_)
          · skip
            exact absurd (by decide) c_50
          · skip
            refine lv_iconst (v := nI 2) hx hb dM_axis_53 (by decide) ?_
            refine lv_goto (tgt := 67) hx hb dM_axis_54 (by decide) ?_
            refine lv_istore (lv' := [(4, .int (nI 2)), (3, .int (nI 1)), (0, .ref (ad kc)), (1, .int (nI 0)), (2, .int a)]) hx hb dM_axis_67 hl (by decide) rfl (fun ls hl => ?_)
            refine lv_aload_n hx hb dM_axis_69 rfl (lv_at hl 2 rfl) ?_
            refine lv_iconst (v := nI 4) hx hb dM_axis_70 (by decide) ?_
            refine lv_iload_n hx hb dM_axis_71 rfl (lv_at hl 1 rfl) ?_
            refine ln_imul hx hb dM_axis_72 ?_
            refine lv_iload_n hx hb dM_axis_73 rfl (lv_at hl 1 rfl) ?_
            refine ln_iadd hx hb dM_axis_74 ?_
            refine lv_iload_n hx hb dM_axis_75 rfl (lv_at hl 4 rfl) ?_
            refine vp_callSl (va_Run.run (bc_runS (own := RM) (As := [.int a]) (rest := [.int (nI ((4 * 1) + 1)), .ref (ad kc)]) hx hb (hml.trans hl.1.symm) hown hts (kM_cos l a) w_428 w_426 w_427 w_4 hd_M_cos rfl ⟨rfl, rfl⟩ ⟨Nat.le_of_ble_eq_true rfl, Nat.le_of_ble_eq_true rfl⟩ (fun _ _ _ _ _ => trivial) (fun _ _ _ => trivial) rfl (Nat.le_of_ble_eq_true rfl) dM_axis_76 ⟨Nat.le_of_ble_eq_true rfl, Nat.le_of_ble_eq_true rfl⟩)) (fun r_76 hr_76 => ?_)
            refine ln_asl ((jsin (a + nI 1024)).toInt64) (by exact hr_76) ?_
            refine ln_last (L := 12) hx hb hE hI hP hS kc 3 (hkc) (fc _) rfl (by omega) (by decide) (((M1 kc).1, vp_updL (M1 kc).2 ((4 * 1) + 1) ((jsin (a + nI 1024)).toInt64))) (fc _) dM_axis_79 (fun M_1 H locs eM_1 hP hS => ?_)
            refine lv_aload_n hx hb dM_axis_80 rfl (lv_at hl 2 rfl) ?_
            refine lv_iconst (v := nI 4) hx hb dM_axis_81 (by decide) ?_
            refine lv_iload_n hx hb dM_axis_82 rfl (lv_at hl 1 rfl) ?_
            refine ln_imul hx hb dM_axis_83 ?_
            refine lv_iload hx hb dM_axis_84 (lv_at hl 0 rfl) ?_
            refine ln_iadd hx hb dM_axis_86 ?_
            refine lv_iload_n hx hb dM_axis_87 rfl (lv_at hl 4 rfl) ?_
            refine vp_callSl (va_Run.run (bc_runS (own := RM) (As := [.int a]) (rest := [.int (nI ((4 * 1) + 2)), .ref (ad kc)]) hx hb (hml.trans hl.1.symm) hown hts (kM_sin l a) w_431 w_429 w_430 w_4 hd_M_sin rfl ⟨rfl, rfl⟩ ⟨Nat.le_of_ble_eq_true rfl, Nat.le_of_ble_eq_true rfl⟩ (fun _ _ _ _ _ => trivial) (fun _ _ _ => trivial) rfl (Nat.le_of_ble_eq_true rfl) dM_axis_88 ⟨Nat.le_of_ble_eq_true rfl, Nat.le_of_ble_eq_true rfl⟩)) (fun r_88 hr_88 => ?_)
            refine ln_asl ((jsin a).toInt64) (by exact hr_88) ?_
            refine lv_lneg hx hb dM_axis_91 ?_
            refine ln_last (L := 12) hx hb hE hI hP hS kc 3 (hkc) (fc _) rfl (by omega) (by decide) (((M_1 kc).1, vp_updL (M_1 kc).2 ((4 * 1) + 2) (-((jsin a).toInt64)))) (fc _) dM_axis_92 (fun M_2 H locs eM_2 hP hS => ?_)
            refine lv_aload_n hx hb dM_axis_93 rfl (lv_at hl 2 rfl) ?_
            refine lv_iconst (v := nI 4) hx hb dM_axis_94 (by decide) ?_
            refine lv_iload hx hb dM_axis_95 (lv_at hl 0 rfl) ?_
            refine ln_imul hx hb dM_axis_97 ?_
            refine lv_iload_n hx hb dM_axis_98 rfl (lv_at hl 1 rfl) ?_
            refine ln_iadd hx hb dM_axis_99 ?_
            refine lv_iload_n hx hb dM_axis_100 rfl (lv_at hl 4 rfl) ?_
            refine vp_callSl (va_Run.run (bc_runS (own := RM) (As := [.int a]) (rest := [.int (nI ((4 * 2) + 1)), .ref (ad kc)]) hx hb (hml.trans hl.1.symm) hown hts (kM_sin l a) w_431 w_429 w_430 w_4 hd_M_sin rfl ⟨rfl, rfl⟩ ⟨Nat.le_of_ble_eq_true rfl, Nat.le_of_ble_eq_true rfl⟩ (fun _ _ _ _ _ => trivial) (fun _ _ _ => trivial) rfl (Nat.le_of_ble_eq_true rfl) dM_axis_101 ⟨Nat.le_of_ble_eq_true rfl, Nat.le_of_ble_eq_true rfl⟩)) (fun r_101 hr_101 => ?_)
            refine ln_asl ((jsin a).toInt64) (by exact hr_101) ?_
            refine ln_last (L := 12) hx hb hE hI hP hS kc 3 (hkc) (fc _) rfl (by omega) (by decide) (((M_2 kc).1, vp_updL (M_2 kc).2 ((4 * 2) + 1) ((jsin a).toInt64))) (fc _) dM_axis_104 (fun M_3 H locs eM_3 hP hS => ?_)
            refine lv_aload_n hx hb dM_axis_105 rfl (lv_at hl 2 rfl) ?_
            refine lv_iconst (v := nI 4) hx hb dM_axis_106 (by decide) ?_
            refine lv_iload hx hb dM_axis_107 (lv_at hl 0 rfl) ?_
            refine ln_imul hx hb dM_axis_109 ?_
            refine lv_iload hx hb dM_axis_110 (lv_at hl 0 rfl) ?_
            refine ln_iadd hx hb dM_axis_112 ?_
            refine lv_iload_n hx hb dM_axis_113 rfl (lv_at hl 4 rfl) ?_
            refine vp_callSl (va_Run.run (bc_runS (own := RM) (As := [.int a]) (rest := [.int (nI ((4 * 2) + 2)), .ref (ad kc)]) hx hb (hml.trans hl.1.symm) hown hts (kM_cos l a) w_428 w_426 w_427 w_4 hd_M_cos rfl ⟨rfl, rfl⟩ ⟨Nat.le_of_ble_eq_true rfl, Nat.le_of_ble_eq_true rfl⟩ (fun _ _ _ _ _ => trivial) (fun _ _ _ => trivial) rfl (Nat.le_of_ble_eq_true rfl) dM_axis_114 ⟨Nat.le_of_ble_eq_true rfl, Nat.le_of_ble_eq_true rfl⟩)) (fun r_114 hr_114 => ?_)
            refine ln_asl ((jsin (a + nI 1024)).toInt64) (by exact hr_114) ?_
            refine ln_last (L := 12) hx hb hE hI hP hS kc 3 (hkc) (fc _) rfl (by omega) (by decide) (((M_3 kc).1, vp_updL (M_3 kc).2 ((4 * 2) + 2) ((jsin (a + nI 1024)).toInt64))) (fc _) dM_axis_117 (fun M_4 H locs eM_4 hP hS => ?_)
            exact W.vret hx hb hr (fun t ht hW => ⟨⟨M_4, rfl, axis_done (by decide) (by rw [show i = 12 by omega] at hinv; exact hinv) eM_1 eM_2 eM_3 eM_4, by show va_P _ _ _ t.heap; rw [ht]; exact hP⟩, hS.F ht⟩) hS.2.2 dM_axis_118
      · skip
        refine lv_aload_n hx hb dM_axis_8 rfl (lv_at hl 1 rfl) ?_
        refine lv_iload_n hx hb dM_axis_9 rfl (lv_at hl 0 rfl) ?_
        refine lv_iload_n hx hb dM_axis_10 rfl (lv_at hl 0 rfl) ?_
        refine lv_iconst (v := nI 5) hx hb dM_axis_11 (by decide) ?_
        refine lv_irem hx hb dM_axis_12 (by decide) ?_
        refine ln_asi (nI (i % 5)) (by exact pk_rem (by omega) (by decide) (by decide)) ?_
        refine lv_if_ne (tgt := 22) hx hb dM_axis_13 (by decide) (fun c_13 => ?_) (fun c_13 => ?_)
        · skip
          refine lv_lconst (v := 0) hx hb dM_axis_22 (by decide) ?_
          refine ln_asl (if i % 5 = 0 then 65536 else 0) (by rw [if_neg (fun z => c_13 ((nI_z (by omega)).mpr z))]) ?_
          refine ln_last (L := 12) hx hb hE hI hP hS kc 3 (hkc) (fc _) rfl (by omega) (by decide) (((M1 kc).1, vp_updL (M1 kc).2 i (if i % 5 = 0 then 65536 else 0))) (fc _) dM_axis_23 (fun M_5 H locs eM_5 hP hS => ?_)
          refine lv_iinc (v := nI (i + 1)) (lv' := [(3, .int (nI (i + 1))), (0, .ref (ad kc)), (1, .int (nI 0)), (2, .int a)]) hx hb dM_axis_24 hl (k := 0) rfl (nI_add i 1) (by decide) rfl (fun ls hl => ?_)
          refine lv_goto (tgt := 2) hx hb dM_axis_27 (by decide) ?_
          exact ih (i + 1)  M_5 H locs ls (by omega) (hinv.step eM_5 rfl) (by omega) hP hS (lv_sub hl [0, 1, 2, 3] rfl)
        · skip
          refine lv_ldc2 (own := RM) (index := 92) (v := 65536) hx hb hown (hts _ w_425) dM_axis_16 ?_
          refine lv_goto (tgt := 23) hx hb dM_axis_19 (by decide) ?_
          refine ln_asl (if i % 5 = 0 then 65536 else 0) (by rw [if_pos ((nI_z (by omega)).mp c_13)]) ?_
          refine ln_last (L := 12) hx hb hE hI hP hS kc 3 (hkc) (fc _) rfl (by omega) (by decide) (((M1 kc).1, vp_updL (M1 kc).2 i (if i % 5 = 0 then 65536 else 0))) (fc _) dM_axis_23 (fun M_6 H locs eM_6 hP hS => ?_)
          refine lv_iinc (v := nI (i + 1)) (lv' := [(3, .int (nI (i + 1))), (0, .ref (ad kc)), (1, .int (nI 0)), (2, .int a)]) hx hb dM_axis_24 hl (k := 0) rfl (nI_add i 1) (by decide) rfl (fun ls hl => ?_)
          refine lv_goto (tgt := 2) hx hb dM_axis_27 (by decide) ?_
          exact ih (i + 1)  M_6 H locs ls (by omega) (hinv.step eM_6 rfl) (by omega) hP hS (lv_sub hl [0, 1, 2, 3] rfl)
  refine lv_iconst (v := nI 0) hx hb dM_axis_0 (by decide) ?_
  refine lv_istore_n (lv' := [(3, .int (nI 0)), (0, .ref (ad kc)), (1, .int (nI 0)), (2, .int a)]) hx hb dM_axis_1 rfl hl (by decide) rfl (fun ls hl => ?_)
  exact (loop 100000) 0  M s.heap [] ls (by omega) (⟨fun _ _ => rfl, fun t ht => by omega⟩) (by omega) hP hS (lv_sub hl [0, 1, 2, 3] rfl)

set_option maxHeartbeats 4000000 in
set_option maxRecDepth 100000 in
theorem kM_axis1 (l : Launch) (D : va_G) (cs : Nat → ClassId) (ad : Nat → Nat) (hI : bw_I ad 13) (M : Nat → mRow) (sz : Nat) (kc : Nat) (hkc : kc < 13) (fc : lc12 cs ad kc) (a : Int32)  : Met l yM_axis (wc yM_axis cM_axis 5 none) ({ frames := 2, cells := 0, slots := 0, locals := 45 } : Room) (va_Pc [.ref (ad kc), .int (nI 1), .int a] (mP D cs ad M sz)) (bQv D ad 13 (mc_cell cs ad) sz (fun M1 => (∀ x, x ≠ kc → M1 x = M x) ∧ lm (M1 kc) (jspin (fun _ => 0) 2 0 a))) 0 0 (bw_A ad 13 sz) := by
  refine Met.ofW (cc := cM_axis) (maxL := 5) (ret := none) (by decide +kernel) rfl ?_
  intro p e s m args below meth c s₁ B hml hv
  obtain ⟨rfl, hsz, hP, hE⟩ := hv
  subst hsz
  have hx := B.exec
  have hb := B.bytes
  have hr := B.returns
  have hts : ∀ w9 ∈ ws_all, w9.before ([.ref (ad kc), .int (nI 1), .int a] : List Value).toArray s = true := fun w9 h => atoms_spec (ws := (wc yM_axis cM_axis 5 none)) B.pre w9 (List.mem_cons_of_mem _ h)
  have hown : s.vm.findClass RM = some m.cls := findClass_of_methodNamed B.named
  have hlocks := B.notSynchronized
  have hS : va_S (bw_A ad 13 s.heap.size) s.heap s.heap [] := va_S.rf
  have hl := lv_entry ([.ref (ad kc), .int (nI 1), .int a]) (n := 5) (Nat.le_of_ble_eq_true rfl)
  rw [lg_entry_eq]
  generalize (lg_sl ([.ref (ad kc), .int (nI 1), .int a]) ++ List.replicate (5 - (lg_sl ([.ref (ad kc), .int (nI 1), .int a])).length) Slot.unset).toArray = ls at hl ⊢
  have hl : lv_has ls 5 [(0, .ref (ad kc)), (1, .int (nI 1)), (2, .int a)] := hl
  have loop : ∀ kf : Nat, (∀ (i : Nat)  (M1 : Nat → mRow) (H : Heap) (locs : List Loc) (ls : Array Slot), i ≤ 12 → dInv M M1 kc i → 12 - i < kf → va_P D cls3 (bw ad 13 (fun j => mc_cell cs ad j (M1 j))) H → va_S (bw_A ad 13 s.heap.size) s.heap H locs → lv_has ls 5 [(3, .int (nI i)), (0, .ref (ad kc)), (1, .int (nI 1)), (2, .int a)] → W p l e (headSpec (wc yM_axis cM_axis 5 none) ({ frames := 2, cells := 0, slots := 0, locals := 45 } : Room)).room s m ([.ref (ad kc), .int (nI 1), .int a] : List Value).toArray below meth c H locs 0 0 (MQ below (bQv D ad 13 (mc_cell cs ad) s.heap.size (fun M1 => (∀ x, x ≠ kc → M1 x = M x) ∧ lm (M1 kc) (jspin (fun _ => 0) 2 0 a))) ([.ref (ad kc), .int (nI 1), .int a] : List Value).toArray s 0 0 (bw_A ad 13 s.heap.size)) (F0 m 2 ls [])) := by
    intro kf
    induction kf with
    | zero => exact by intros; omega
    | succ kf ih =>
      intro i  M1 H locs ls hi hinv hmu hP hS hl
      refine lv_iload_n hx hb dM_axis_2 rfl (lv_at hl 0 rfl) ?_
      refine lv_bipush (v := nI 12) hx hb dM_axis_3 (by decide) ?_
      refine ln_icmp_ge (tgt := 30) hx hb dM_axis_5 (by decide) (by omega) (by omega) (fun c_5 => ?_) (fun c_5 => ?_)
      · skip
        refine lv_iload_n hx hb dM_axis_30 rfl (lv_at hl 2 rfl) ?_
        refine lv_if_ne (tgt := 38) hx hb dM_axis_31 (by decide) (fun c_31 => ?_) (fun c_31 => ?_)
        · skip
          refine lv_iload_n hx hb dM_axis_38 rfl (lv_at hl 2 rfl) ?_
          refine lv_iconst (v := nI 1) hx hb dM_axis_39 (by decide) ?_
          refine ln_icmp_ne (tgt := 47) hx hb dM_axis_40 (by decide) (by omega) (by omega) (fun c_40 => ?_) (fun c_40 => ?_)
          · skip
            exact absurd rfl c_40
          · skip
            refine lv_iconst (v := nI 2) hx hb dM_axis_43 (by decide) ?_
            refine lv_goto (tgt := 48) hx hb dM_axis_44 (by decide) ?_
            refine lv_istore_n (lv' := [(3, .int (nI 2)), (0, .ref (ad kc)), (1, .int (nI 1)), (2, .int a)]) hx hb dM_axis_48 rfl hl (by decide) rfl (fun ls hl => ?_)
            refine lv_iload_n hx hb dM_axis_49 rfl (lv_at hl 2 rfl) ?_
            refine lv_if_ne (tgt := 57) hx hb dM_axis_50 (by decide) (fun c_50 => ?_) (fun c_50 => ?_)
            · skip
              refine lv_iload_n hx hb dM_axis_57 rfl (lv_at hl 2 rfl) ?_
              refine lv_iconst (v := nI 1) hx hb dM_axis_58 (by decide) ?_
              refine ln_icmp_ne (tgt := 66) hx hb dM_axis_59 (by decide) (by omega) (by omega) (fun c_59 => ?_) (fun c_59 => ?_)
              · skip
                exact absurd rfl c_59
              · skip
                refine lv_iconst (v := nI 0) hx hb dM_axis_62 (by decide) ?_
                refine lv_goto (tgt := 67) hx hb dM_axis_63 (by decide) ?_
                refine lv_istore (lv' := [(4, .int (nI 0)), (3, .int (nI 2)), (0, .ref (ad kc)), (1, .int (nI 1)), (2, .int a)]) hx hb dM_axis_67 hl (by decide) rfl (fun ls hl => ?_)
                refine lv_aload_n hx hb dM_axis_69 rfl (lv_at hl 2 rfl) ?_
                refine lv_iconst (v := nI 4) hx hb dM_axis_70 (by decide) ?_
                refine lv_iload_n hx hb dM_axis_71 rfl (lv_at hl 1 rfl) ?_
                refine ln_imul hx hb dM_axis_72 ?_
                refine lv_iload_n hx hb dM_axis_73 rfl (lv_at hl 1 rfl) ?_
                refine ln_iadd hx hb dM_axis_74 ?_
                refine lv_iload_n hx hb dM_axis_75 rfl (lv_at hl 4 rfl) ?_
                refine vp_callSl (va_Run.run (bc_runS (own := RM) (As := [.int a]) (rest := [.int (nI ((4 * 2) + 2)), .ref (ad kc)]) hx hb (hml.trans hl.1.symm) hown hts (kM_cos l a) w_428 w_426 w_427 w_4 hd_M_cos rfl ⟨rfl, rfl⟩ ⟨Nat.le_of_ble_eq_true rfl, Nat.le_of_ble_eq_true rfl⟩ (fun _ _ _ _ _ => trivial) (fun _ _ _ => trivial) rfl (Nat.le_of_ble_eq_true rfl) dM_axis_76 ⟨Nat.le_of_ble_eq_true rfl, Nat.le_of_ble_eq_true rfl⟩)) (fun r_76 hr_76 => ?_)
                refine ln_asl ((jsin (a + nI 1024)).toInt64) (by exact hr_76) ?_
                refine ln_last (L := 12) hx hb hE hI hP hS kc 3 (hkc) (fc _) rfl (by omega) (by decide) (((M1 kc).1, vp_updL (M1 kc).2 ((4 * 2) + 2) ((jsin (a + nI 1024)).toInt64))) (fc _) dM_axis_79 (fun M_1 H locs eM_1 hP hS => ?_)
                refine lv_aload_n hx hb dM_axis_80 rfl (lv_at hl 2 rfl) ?_
                refine lv_iconst (v := nI 4) hx hb dM_axis_81 (by decide) ?_
                refine lv_iload_n hx hb dM_axis_82 rfl (lv_at hl 1 rfl) ?_
                refine ln_imul hx hb dM_axis_83 ?_
                refine lv_iload hx hb dM_axis_84 (lv_at hl 0 rfl) ?_
                refine ln_iadd hx hb dM_axis_86 ?_
                refine lv_iload_n hx hb dM_axis_87 rfl (lv_at hl 4 rfl) ?_
                refine vp_callSl (va_Run.run (bc_runS (own := RM) (As := [.int a]) (rest := [.int (nI ((4 * 2) + 0)), .ref (ad kc)]) hx hb (hml.trans hl.1.symm) hown hts (kM_sin l a) w_431 w_429 w_430 w_4 hd_M_sin rfl ⟨rfl, rfl⟩ ⟨Nat.le_of_ble_eq_true rfl, Nat.le_of_ble_eq_true rfl⟩ (fun _ _ _ _ _ => trivial) (fun _ _ _ => trivial) rfl (Nat.le_of_ble_eq_true rfl) dM_axis_88 ⟨Nat.le_of_ble_eq_true rfl, Nat.le_of_ble_eq_true rfl⟩)) (fun r_88 hr_88 => ?_)
                refine ln_asl ((jsin a).toInt64) (by exact hr_88) ?_
                refine lv_lneg hx hb dM_axis_91 ?_
                refine ln_last (L := 12) hx hb hE hI hP hS kc 3 (hkc) (fc _) rfl (by omega) (by decide) (((M_1 kc).1, vp_updL (M_1 kc).2 ((4 * 2) + 0) (-((jsin a).toInt64)))) (fc _) dM_axis_92 (fun M_2 H locs eM_2 hP hS => ?_)
                refine lv_aload_n hx hb dM_axis_93 rfl (lv_at hl 2 rfl) ?_
                refine lv_iconst (v := nI 4) hx hb dM_axis_94 (by decide) ?_
                refine lv_iload hx hb dM_axis_95 (lv_at hl 0 rfl) ?_
                refine ln_imul hx hb dM_axis_97 ?_
                refine lv_iload_n hx hb dM_axis_98 rfl (lv_at hl 1 rfl) ?_
                refine ln_iadd hx hb dM_axis_99 ?_
                refine lv_iload_n hx hb dM_axis_100 rfl (lv_at hl 4 rfl) ?_
                refine vp_callSl (va_Run.run (bc_runS (own := RM) (As := [.int a]) (rest := [.int (nI ((4 * 0) + 2)), .ref (ad kc)]) hx hb (hml.trans hl.1.symm) hown hts (kM_sin l a) w_431 w_429 w_430 w_4 hd_M_sin rfl ⟨rfl, rfl⟩ ⟨Nat.le_of_ble_eq_true rfl, Nat.le_of_ble_eq_true rfl⟩ (fun _ _ _ _ _ => trivial) (fun _ _ _ => trivial) rfl (Nat.le_of_ble_eq_true rfl) dM_axis_101 ⟨Nat.le_of_ble_eq_true rfl, Nat.le_of_ble_eq_true rfl⟩)) (fun r_101 hr_101 => ?_)
                refine ln_asl ((jsin a).toInt64) (by exact hr_101) ?_
                refine ln_last (L := 12) hx hb hE hI hP hS kc 3 (hkc) (fc _) rfl (by omega) (by decide) (((M_2 kc).1, vp_updL (M_2 kc).2 ((4 * 0) + 2) ((jsin a).toInt64))) (fc _) dM_axis_104 (fun M_3 H locs eM_3 hP hS => ?_)
                refine lv_aload_n hx hb dM_axis_105 rfl (lv_at hl 2 rfl) ?_
                refine lv_iconst (v := nI 4) hx hb dM_axis_106 (by decide) ?_
                refine lv_iload hx hb dM_axis_107 (lv_at hl 0 rfl) ?_
                refine ln_imul hx hb dM_axis_109 ?_
                refine lv_iload hx hb dM_axis_110 (lv_at hl 0 rfl) ?_
                refine ln_iadd hx hb dM_axis_112 ?_
                refine lv_iload_n hx hb dM_axis_113 rfl (lv_at hl 4 rfl) ?_
                refine vp_callSl (va_Run.run (bc_runS (own := RM) (As := [.int a]) (rest := [.int (nI ((4 * 0) + 0)), .ref (ad kc)]) hx hb (hml.trans hl.1.symm) hown hts (kM_cos l a) w_428 w_426 w_427 w_4 hd_M_cos rfl ⟨rfl, rfl⟩ ⟨Nat.le_of_ble_eq_true rfl, Nat.le_of_ble_eq_true rfl⟩ (fun _ _ _ _ _ => trivial) (fun _ _ _ => trivial) rfl (Nat.le_of_ble_eq_true rfl) dM_axis_114 ⟨Nat.le_of_ble_eq_true rfl, Nat.le_of_ble_eq_true rfl⟩)) (fun r_114 hr_114 => ?_)
                refine ln_asl ((jsin (a + nI 1024)).toInt64) (by exact hr_114) ?_
                refine ln_last (L := 12) hx hb hE hI hP hS kc 3 (hkc) (fc _) rfl (by omega) (by decide) (((M_3 kc).1, vp_updL (M_3 kc).2 ((4 * 0) + 0) ((jsin (a + nI 1024)).toInt64))) (fc _) dM_axis_117 (fun M_4 H locs eM_4 hP hS => ?_)
                exact W.vret hx hb hr (fun t ht hW => ⟨⟨M_4, rfl, axis_done (by decide) (by rw [show i = 12 by omega] at hinv; exact hinv) eM_1 eM_2 eM_3 eM_4, by show va_P _ _ _ t.heap; rw [ht]; exact hP⟩, hS.F ht⟩) hS.2.2 dM_axis_118
            · skip
              exact absurd c_50 (by decide)
        · skip
          exact absurd c_31 (by decide)
      · skip
        refine lv_aload_n hx hb dM_axis_8 rfl (lv_at hl 1 rfl) ?_
        refine lv_iload_n hx hb dM_axis_9 rfl (lv_at hl 0 rfl) ?_
        refine lv_iload_n hx hb dM_axis_10 rfl (lv_at hl 0 rfl) ?_
        refine lv_iconst (v := nI 5) hx hb dM_axis_11 (by decide) ?_
        refine lv_irem hx hb dM_axis_12 (by decide) ?_
        refine ln_asi (nI (i % 5)) (by exact pk_rem (by omega) (by decide) (by decide)) ?_
        refine lv_if_ne (tgt := 22) hx hb dM_axis_13 (by decide) (fun c_13 => ?_) (fun c_13 => ?_)
        · skip
          refine lv_lconst (v := 0) hx hb dM_axis_22 (by decide) ?_
          refine ln_asl (if i % 5 = 0 then 65536 else 0) (by rw [if_neg (fun z => c_13 ((nI_z (by omega)).mpr z))]) ?_
          refine ln_last (L := 12) hx hb hE hI hP hS kc 3 (hkc) (fc _) rfl (by omega) (by decide) (((M1 kc).1, vp_updL (M1 kc).2 i (if i % 5 = 0 then 65536 else 0))) (fc _) dM_axis_23 (fun M_5 H locs eM_5 hP hS => ?_)
          refine lv_iinc (v := nI (i + 1)) (lv' := [(3, .int (nI (i + 1))), (0, .ref (ad kc)), (1, .int (nI 1)), (2, .int a)]) hx hb dM_axis_24 hl (k := 0) rfl (nI_add i 1) (by decide) rfl (fun ls hl => ?_)
          refine lv_goto (tgt := 2) hx hb dM_axis_27 (by decide) ?_
          exact ih (i + 1)  M_5 H locs ls (by omega) (hinv.step eM_5 rfl) (by omega) hP hS (lv_sub hl [0, 1, 2, 3] rfl)
        · skip
          refine lv_ldc2 (own := RM) (index := 92) (v := 65536) hx hb hown (hts _ w_425) dM_axis_16 ?_
          refine lv_goto (tgt := 23) hx hb dM_axis_19 (by decide) ?_
          refine ln_asl (if i % 5 = 0 then 65536 else 0) (by rw [if_pos ((nI_z (by omega)).mp c_13)]) ?_
          refine ln_last (L := 12) hx hb hE hI hP hS kc 3 (hkc) (fc _) rfl (by omega) (by decide) (((M1 kc).1, vp_updL (M1 kc).2 i (if i % 5 = 0 then 65536 else 0))) (fc _) dM_axis_23 (fun M_6 H locs eM_6 hP hS => ?_)
          refine lv_iinc (v := nI (i + 1)) (lv' := [(3, .int (nI (i + 1))), (0, .ref (ad kc)), (1, .int (nI 1)), (2, .int a)]) hx hb dM_axis_24 hl (k := 0) rfl (nI_add i 1) (by decide) rfl (fun ls hl => ?_)
          refine lv_goto (tgt := 2) hx hb dM_axis_27 (by decide) ?_
          exact ih (i + 1)  M_6 H locs ls (by omega) (hinv.step eM_6 rfl) (by omega) hP hS (lv_sub hl [0, 1, 2, 3] rfl)
  refine lv_iconst (v := nI 0) hx hb dM_axis_0 (by decide) ?_
  refine lv_istore_n (lv' := [(3, .int (nI 0)), (0, .ref (ad kc)), (1, .int (nI 1)), (2, .int a)]) hx hb dM_axis_1 rfl hl (by decide) rfl (fun ls hl => ?_)
  exact (loop 100000) 0  M s.heap [] ls (by omega) (⟨fun _ _ => rfl, fun t ht => by omega⟩) (by omega) hP hS (lv_sub hl [0, 1, 2, 3] rfl)

set_option maxHeartbeats 4000000 in
set_option maxRecDepth 100000 in
theorem kM_axis2 (l : Launch) (D : va_G) (cs : Nat → ClassId) (ad : Nat → Nat) (hI : bw_I ad 13) (M : Nat → mRow) (sz : Nat) (kc : Nat) (hkc : kc < 13) (fc : lc12 cs ad kc) (a : Int32)  : Met l yM_axis (wc yM_axis cM_axis 5 none) ({ frames := 2, cells := 0, slots := 0, locals := 45 } : Room) (va_Pc [.ref (ad kc), .int (nI 2), .int a] (mP D cs ad M sz)) (bQv D ad 13 (mc_cell cs ad) sz (fun M1 => (∀ x, x ≠ kc → M1 x = M x) ∧ lm (M1 kc) (jspin (fun _ => 0) 0 1 a))) 0 0 (bw_A ad 13 sz) := by
  refine Met.ofW (cc := cM_axis) (maxL := 5) (ret := none) (by decide +kernel) rfl ?_
  intro p e s m args below meth c s₁ B hml hv
  obtain ⟨rfl, hsz, hP, hE⟩ := hv
  subst hsz
  have hx := B.exec
  have hb := B.bytes
  have hr := B.returns
  have hts : ∀ w9 ∈ ws_all, w9.before ([.ref (ad kc), .int (nI 2), .int a] : List Value).toArray s = true := fun w9 h => atoms_spec (ws := (wc yM_axis cM_axis 5 none)) B.pre w9 (List.mem_cons_of_mem _ h)
  have hown : s.vm.findClass RM = some m.cls := findClass_of_methodNamed B.named
  have hlocks := B.notSynchronized
  have hS : va_S (bw_A ad 13 s.heap.size) s.heap s.heap [] := va_S.rf
  have hl := lv_entry ([.ref (ad kc), .int (nI 2), .int a]) (n := 5) (Nat.le_of_ble_eq_true rfl)
  rw [lg_entry_eq]
  generalize (lg_sl ([.ref (ad kc), .int (nI 2), .int a]) ++ List.replicate (5 - (lg_sl ([.ref (ad kc), .int (nI 2), .int a])).length) Slot.unset).toArray = ls at hl ⊢
  have hl : lv_has ls 5 [(0, .ref (ad kc)), (1, .int (nI 2)), (2, .int a)] := hl
  have loop : ∀ kf : Nat, (∀ (i : Nat)  (M1 : Nat → mRow) (H : Heap) (locs : List Loc) (ls : Array Slot), i ≤ 12 → dInv M M1 kc i → 12 - i < kf → va_P D cls3 (bw ad 13 (fun j => mc_cell cs ad j (M1 j))) H → va_S (bw_A ad 13 s.heap.size) s.heap H locs → lv_has ls 5 [(3, .int (nI i)), (0, .ref (ad kc)), (1, .int (nI 2)), (2, .int a)] → W p l e (headSpec (wc yM_axis cM_axis 5 none) ({ frames := 2, cells := 0, slots := 0, locals := 45 } : Room)).room s m ([.ref (ad kc), .int (nI 2), .int a] : List Value).toArray below meth c H locs 0 0 (MQ below (bQv D ad 13 (mc_cell cs ad) s.heap.size (fun M1 => (∀ x, x ≠ kc → M1 x = M x) ∧ lm (M1 kc) (jspin (fun _ => 0) 0 1 a))) ([.ref (ad kc), .int (nI 2), .int a] : List Value).toArray s 0 0 (bw_A ad 13 s.heap.size)) (F0 m 2 ls [])) := by
    intro kf
    induction kf with
    | zero => exact by intros; omega
    | succ kf ih =>
      intro i  M1 H locs ls hi hinv hmu hP hS hl
      refine lv_iload_n hx hb dM_axis_2 rfl (lv_at hl 0 rfl) ?_
      refine lv_bipush (v := nI 12) hx hb dM_axis_3 (by decide) ?_
      refine ln_icmp_ge (tgt := 30) hx hb dM_axis_5 (by decide) (by omega) (by omega) (fun c_5 => ?_) (fun c_5 => ?_)
      · skip
        refine lv_iload_n hx hb dM_axis_30 rfl (lv_at hl 2 rfl) ?_
        refine lv_if_ne (tgt := 38) hx hb dM_axis_31 (by decide) (fun c_31 => ?_) (fun c_31 => ?_)
        · skip
          refine lv_iload_n hx hb dM_axis_38 rfl (lv_at hl 2 rfl) ?_
          refine lv_iconst (v := nI 1) hx hb dM_axis_39 (by decide) ?_
          refine ln_icmp_ne (tgt := 47) hx hb dM_axis_40 (by decide) (by omega) (by omega) (fun c_40 => ?_) (fun c_40 => ?_)
          · skip
            refine lv_iconst (v := nI 0) hx hb dM_axis_47 (by decide) ?_
            refine lv_istore_n (lv' := [(3, .int (nI 0)), (0, .ref (ad kc)), (1, .int (nI 2)), (2, .int a)]) hx hb dM_axis_48 rfl hl (by decide) rfl (fun ls hl => ?_)
            refine lv_iload_n hx hb dM_axis_49 rfl (lv_at hl 2 rfl) ?_
            refine lv_if_ne (tgt := 57) hx hb dM_axis_50 (by decide) (fun c_50 => ?_) (fun c_50 => ?_)
            · skip
              refine lv_iload_n hx hb dM_axis_57 rfl (lv_at hl 2 rfl) ?_
              refine lv_iconst (v := nI 1) hx hb dM_axis_58 (by decide) ?_
              refine ln_icmp_ne (tgt := 66) hx hb dM_axis_59 (by decide) (by omega) (by omega) (fun c_59 => ?_) (fun c_59 => ?_)
              · skip
                refine lv_iconst (v := nI 1) hx hb dM_axis_66 (by decide) ?_
                refine lv_istore (lv' := [(4, .int (nI 1)), (3, .int (nI 0)), (0, .ref (ad kc)), (1, .int (nI 2)), (2, .int a)]) hx hb dM_axis_67 hl (by decide) rfl (fun ls hl => ?_)
                refine lv_aload_n hx hb dM_axis_69 rfl (lv_at hl 2 rfl) ?_
                refine lv_iconst (v := nI 4) hx hb dM_axis_70 (by decide) ?_
                refine lv_iload_n hx hb dM_axis_71 rfl (lv_at hl 1 rfl) ?_
                refine ln_imul hx hb dM_axis_72 ?_
                refine lv_iload_n hx hb dM_axis_73 rfl (lv_at hl 1 rfl) ?_
                refine ln_iadd hx hb dM_axis_74 ?_
                refine lv_iload_n hx hb dM_axis_75 rfl (lv_at hl 4 rfl) ?_
                refine vp_callSl (va_Run.run (bc_runS (own := RM) (As := [.int a]) (rest := [.int (nI ((4 * 0) + 0)), .ref (ad kc)]) hx hb (hml.trans hl.1.symm) hown hts (kM_cos l a) w_428 w_426 w_427 w_4 hd_M_cos rfl ⟨rfl, rfl⟩ ⟨Nat.le_of_ble_eq_true rfl, Nat.le_of_ble_eq_true rfl⟩ (fun _ _ _ _ _ => trivial) (fun _ _ _ => trivial) rfl (Nat.le_of_ble_eq_true rfl) dM_axis_76 ⟨Nat.le_of_ble_eq_true rfl, Nat.le_of_ble_eq_true rfl⟩)) (fun r_76 hr_76 => ?_)
                refine ln_asl ((jsin (a + nI 1024)).toInt64) (by exact hr_76) ?_
                refine ln_last (L := 12) hx hb hE hI hP hS kc 3 (hkc) (fc _) rfl (by omega) (by decide) (((M1 kc).1, vp_updL (M1 kc).2 ((4 * 0) + 0) ((jsin (a + nI 1024)).toInt64))) (fc _) dM_axis_79 (fun M_1 H locs eM_1 hP hS => ?_)
                refine lv_aload_n hx hb dM_axis_80 rfl (lv_at hl 2 rfl) ?_
                refine lv_iconst (v := nI 4) hx hb dM_axis_81 (by decide) ?_
                refine lv_iload_n hx hb dM_axis_82 rfl (lv_at hl 1 rfl) ?_
                refine ln_imul hx hb dM_axis_83 ?_
                refine lv_iload hx hb dM_axis_84 (lv_at hl 0 rfl) ?_
                refine ln_iadd hx hb dM_axis_86 ?_
                refine lv_iload_n hx hb dM_axis_87 rfl (lv_at hl 4 rfl) ?_
                refine vp_callSl (va_Run.run (bc_runS (own := RM) (As := [.int a]) (rest := [.int (nI ((4 * 0) + 1)), .ref (ad kc)]) hx hb (hml.trans hl.1.symm) hown hts (kM_sin l a) w_431 w_429 w_430 w_4 hd_M_sin rfl ⟨rfl, rfl⟩ ⟨Nat.le_of_ble_eq_true rfl, Nat.le_of_ble_eq_true rfl⟩ (fun _ _ _ _ _ => trivial) (fun _ _ _ => trivial) rfl (Nat.le_of_ble_eq_true rfl) dM_axis_88 ⟨Nat.le_of_ble_eq_true rfl, Nat.le_of_ble_eq_true rfl⟩)) (fun r_88 hr_88 => ?_)
                refine ln_asl ((jsin a).toInt64) (by exact hr_88) ?_
                refine lv_lneg hx hb dM_axis_91 ?_
                refine ln_last (L := 12) hx hb hE hI hP hS kc 3 (hkc) (fc _) rfl (by omega) (by decide) (((M_1 kc).1, vp_updL (M_1 kc).2 ((4 * 0) + 1) (-((jsin a).toInt64)))) (fc _) dM_axis_92 (fun M_2 H locs eM_2 hP hS => ?_)
                refine lv_aload_n hx hb dM_axis_93 rfl (lv_at hl 2 rfl) ?_
                refine lv_iconst (v := nI 4) hx hb dM_axis_94 (by decide) ?_
                refine lv_iload hx hb dM_axis_95 (lv_at hl 0 rfl) ?_
                refine ln_imul hx hb dM_axis_97 ?_
                refine lv_iload_n hx hb dM_axis_98 rfl (lv_at hl 1 rfl) ?_
                refine ln_iadd hx hb dM_axis_99 ?_
                refine lv_iload_n hx hb dM_axis_100 rfl (lv_at hl 4 rfl) ?_
                refine vp_callSl (va_Run.run (bc_runS (own := RM) (As := [.int a]) (rest := [.int (nI ((4 * 1) + 0)), .ref (ad kc)]) hx hb (hml.trans hl.1.symm) hown hts (kM_sin l a) w_431 w_429 w_430 w_4 hd_M_sin rfl ⟨rfl, rfl⟩ ⟨Nat.le_of_ble_eq_true rfl, Nat.le_of_ble_eq_true rfl⟩ (fun _ _ _ _ _ => trivial) (fun _ _ _ => trivial) rfl (Nat.le_of_ble_eq_true rfl) dM_axis_101 ⟨Nat.le_of_ble_eq_true rfl, Nat.le_of_ble_eq_true rfl⟩)) (fun r_101 hr_101 => ?_)
                refine ln_asl ((jsin a).toInt64) (by exact hr_101) ?_
                refine ln_last (L := 12) hx hb hE hI hP hS kc 3 (hkc) (fc _) rfl (by omega) (by decide) (((M_2 kc).1, vp_updL (M_2 kc).2 ((4 * 1) + 0) ((jsin a).toInt64))) (fc _) dM_axis_104 (fun M_3 H locs eM_3 hP hS => ?_)
                refine lv_aload_n hx hb dM_axis_105 rfl (lv_at hl 2 rfl) ?_
                refine lv_iconst (v := nI 4) hx hb dM_axis_106 (by decide) ?_
                refine lv_iload hx hb dM_axis_107 (lv_at hl 0 rfl) ?_
                refine ln_imul hx hb dM_axis_109 ?_
                refine lv_iload hx hb dM_axis_110 (lv_at hl 0 rfl) ?_
                refine ln_iadd hx hb dM_axis_112 ?_
                refine lv_iload_n hx hb dM_axis_113 rfl (lv_at hl 4 rfl) ?_
                refine vp_callSl (va_Run.run (bc_runS (own := RM) (As := [.int a]) (rest := [.int (nI ((4 * 1) + 1)), .ref (ad kc)]) hx hb (hml.trans hl.1.symm) hown hts (kM_cos l a) w_428 w_426 w_427 w_4 hd_M_cos rfl ⟨rfl, rfl⟩ ⟨Nat.le_of_ble_eq_true rfl, Nat.le_of_ble_eq_true rfl⟩ (fun _ _ _ _ _ => trivial) (fun _ _ _ => trivial) rfl (Nat.le_of_ble_eq_true rfl) dM_axis_114 ⟨Nat.le_of_ble_eq_true rfl, Nat.le_of_ble_eq_true rfl⟩)) (fun r_114 hr_114 => ?_)
                refine ln_asl ((jsin (a + nI 1024)).toInt64) (by exact hr_114) ?_
                refine ln_last (L := 12) hx hb hE hI hP hS kc 3 (hkc) (fc _) rfl (by omega) (by decide) (((M_3 kc).1, vp_updL (M_3 kc).2 ((4 * 1) + 1) ((jsin (a + nI 1024)).toInt64))) (fc _) dM_axis_117 (fun M_4 H locs eM_4 hP hS => ?_)
                exact W.vret hx hb hr (fun t ht hW => ⟨⟨M_4, rfl, axis_done (by decide) (by rw [show i = 12 by omega] at hinv; exact hinv) eM_1 eM_2 eM_3 eM_4, by show va_P _ _ _ t.heap; rw [ht]; exact hP⟩, hS.F ht⟩) hS.2.2 dM_axis_118
              · skip
                exact absurd c_59 (by decide)
            · skip
              exact absurd c_50 (by decide)
          · skip
            exact absurd c_40 (by decide)
        · skip
          exact absurd c_31 (by decide)
      · skip
        refine lv_aload_n hx hb dM_axis_8 rfl (lv_at hl 1 rfl) ?_
        refine lv_iload_n hx hb dM_axis_9 rfl (lv_at hl 0 rfl) ?_
        refine lv_iload_n hx hb dM_axis_10 rfl (lv_at hl 0 rfl) ?_
        refine lv_iconst (v := nI 5) hx hb dM_axis_11 (by decide) ?_
        refine lv_irem hx hb dM_axis_12 (by decide) ?_
        refine ln_asi (nI (i % 5)) (by exact pk_rem (by omega) (by decide) (by decide)) ?_
        refine lv_if_ne (tgt := 22) hx hb dM_axis_13 (by decide) (fun c_13 => ?_) (fun c_13 => ?_)
        · skip
          refine lv_lconst (v := 0) hx hb dM_axis_22 (by decide) ?_
          refine ln_asl (if i % 5 = 0 then 65536 else 0) (by rw [if_neg (fun z => c_13 ((nI_z (by omega)).mpr z))]) ?_
          refine ln_last (L := 12) hx hb hE hI hP hS kc 3 (hkc) (fc _) rfl (by omega) (by decide) (((M1 kc).1, vp_updL (M1 kc).2 i (if i % 5 = 0 then 65536 else 0))) (fc _) dM_axis_23 (fun M_5 H locs eM_5 hP hS => ?_)
          refine lv_iinc (v := nI (i + 1)) (lv' := [(3, .int (nI (i + 1))), (0, .ref (ad kc)), (1, .int (nI 2)), (2, .int a)]) hx hb dM_axis_24 hl (k := 0) rfl (nI_add i 1) (by decide) rfl (fun ls hl => ?_)
          refine lv_goto (tgt := 2) hx hb dM_axis_27 (by decide) ?_
          exact ih (i + 1)  M_5 H locs ls (by omega) (hinv.step eM_5 rfl) (by omega) hP hS (lv_sub hl [0, 1, 2, 3] rfl)
        · skip
          refine lv_ldc2 (own := RM) (index := 92) (v := 65536) hx hb hown (hts _ w_425) dM_axis_16 ?_
          refine lv_goto (tgt := 23) hx hb dM_axis_19 (by decide) ?_
          refine ln_asl (if i % 5 = 0 then 65536 else 0) (by rw [if_pos ((nI_z (by omega)).mp c_13)]) ?_
          refine ln_last (L := 12) hx hb hE hI hP hS kc 3 (hkc) (fc _) rfl (by omega) (by decide) (((M1 kc).1, vp_updL (M1 kc).2 i (if i % 5 = 0 then 65536 else 0))) (fc _) dM_axis_23 (fun M_6 H locs eM_6 hP hS => ?_)
          refine lv_iinc (v := nI (i + 1)) (lv' := [(3, .int (nI (i + 1))), (0, .ref (ad kc)), (1, .int (nI 2)), (2, .int a)]) hx hb dM_axis_24 hl (k := 0) rfl (nI_add i 1) (by decide) rfl (fun ls hl => ?_)
          refine lv_goto (tgt := 2) hx hb dM_axis_27 (by decide) ?_
          exact ih (i + 1)  M_6 H locs ls (by omega) (hinv.step eM_6 rfl) (by omega) hP hS (lv_sub hl [0, 1, 2, 3] rfl)
  refine lv_iconst (v := nI 0) hx hb dM_axis_0 (by decide) ?_
  refine lv_istore_n (lv' := [(3, .int (nI 0)), (0, .ref (ad kc)), (1, .int (nI 2)), (2, .int a)]) hx hb dM_axis_1 rfl hl (by decide) rfl (fun ls hl => ?_)
  exact (loop 100000) 0  M s.heap [] ls (by omega) (⟨fun _ _ => rfl, fun t ht => by omega⟩) (by omega) hP hS (lv_sub hl [0, 1, 2, 3] rfl)

set_option maxHeartbeats 4000000 in
set_option maxRecDepth 100000 in
theorem kM_turn (l : Launch) (D : va_G) (cs : Nat → ClassId) (ad : Nat → Nat) (hI : bw_I ad 13) (M : Nat → mRow) (sz : Nat) (u : Nat) (hu : u + 3 ≤ 441)  : Met l yM_turn (wc yM_turn cM_turn 2 none) ({ frames := 3, cells := 0, slots := 0, locals := 69 } : Room) (va_Pc [.ref (ad 0), .int (nI u)] (mP D cs ad M sz)) (bQv D ad 13 (mc_cell cs ad) sz (fun M1 => (∀ q, (q < 7 ∨ 11 ≤ q) → M1 q = M q) ∧ lm (M1 10) (jturn ((M 4).1 u) ((M 4).1 (u + 1)) ((M 4).1 (u + 2))))) 0 0 (bw_A ad 13 sz) := by
  refine Met.ofW (cc := cM_turn) (maxL := 2) (ret := none) (by decide +kernel) rfl ?_
  intro p e s m args below meth c s₁ B hml hv
  obtain ⟨rfl, hsz, hP, hE⟩ := hv
  subst hsz
  have hx := B.exec
  have hb := B.bytes
  have hr := B.returns
  have hts : ∀ w9 ∈ ws_all, w9.before ([.ref (ad 0), .int (nI u)] : List Value).toArray s = true := fun w9 h => atoms_spec (ws := (wc yM_turn cM_turn 2 none)) B.pre w9 (List.mem_cons_of_mem _ h)
  have hown : s.vm.findClass RM = some m.cls := findClass_of_methodNamed B.named
  have hlocks := B.notSynchronized
  have hS : va_S (bw_A ad 13 s.heap.size) s.heap s.heap [] := va_S.rf
  have hl := lv_entry ([.ref (ad 0), .int (nI u)]) (n := 2) (Nat.le_of_ble_eq_true rfl)
  rw [lg_entry_eq]
  generalize (lg_sl ([.ref (ad 0), .int (nI u)]) ++ List.replicate (2 - (lg_sl ([.ref (ad 0), .int (nI u)])).length) Slot.unset).toArray = ls at hl ⊢
  have hl : lv_has ls 2 [(0, .ref (ad 0)), (1, .int (nI u))] := hl
  have hu0 := hu
  refine lv_aload_n hx hb dM_turn_0 rfl (lv_at hl 0 rfl) ?_
  refine bw_get (own := RM) (ci := 2) (C := RM) (T := TM) (N := 14) (v := .ref (ad 8)) hx hb hts inM hown hE hP 0 (by decide) rfl rfl 9 (by decide) w_325 rfl rfl dM_turn_1 ?_
  refine lv_iconst (v := nI 1) hx hb dM_turn_4 (by decide) ?_
  refine lv_aload_n hx hb dM_turn_5 rfl (lv_at hl 0 rfl) ?_
  refine bw_get (own := RM) (ci := 2) (C := RM) (T := TM) (N := 14) (v := .ref (ad 4)) hx hb hts inM hown hE hP 0 (by decide) rfl rfl 5 (by decide) w_321 rfl rfl dM_turn_6 ?_
  refine lv_iload_n hx hb dM_turn_9 rfl (lv_at hl 1 rfl) ?_
  refine lv_iconst (v := nI 1) hx hb dM_turn_10 (by decide) ?_
  refine ln_iadd hx hb dM_turn_11 ?_
  refine ln_iald (L := 441) (g := (M 4).1) hx hb hE hP 4 0 (by decide) (rfl) rfl (by omega) (by decide) dM_turn_12 ?_
  refine bc_callv (bc_runS (own := RM) (As := [.ref (ad 8), .int (nI 1), .int ((M 4).1 (u + 1))]) (rest := []) hx hb (hml.trans hl.1.symm) hown hts (kM_axis1 l D cs ad hI M s.heap.size 8 (by decide) (fun _ => rfl) ((M 4).1 (u + 1))) w_424 w_422 w_423 w_4 hd_M_axis rfl ⟨rfl, rfl⟩ ⟨Nat.le_of_ble_eq_true rfl, Nat.le_of_ble_eq_true rfl⟩ (fun _ _ _ _ h => h.calling) (fun U hU hW => ⟨by rw [hU], by rw [hU]; exact hP, hE.warm hW⟩) rfl (Nat.le_of_ble_eq_true rfl) dM_turn_13 ⟨Nat.le_of_ble_eq_true rfl, Nat.le_of_ble_eq_true rfl⟩) hS (fun M_1 H locs hr_13 hP hS => ?_)
  refine lv_aload_n hx hb dM_turn_16 rfl (lv_at hl 0 rfl) ?_
  refine bw_get (own := RM) (ci := 2) (C := RM) (T := TM) (N := 14) (v := .ref (ad 9)) hx hb hts inM hown hE hP 0 (by decide) rfl rfl 10 (by decide) w_326 rfl rfl dM_turn_17 ?_
  refine lv_iconst (v := nI 0) hx hb dM_turn_20 (by decide) ?_
  refine lv_aload_n hx hb dM_turn_21 rfl (lv_at hl 0 rfl) ?_
  refine bw_get (own := RM) (ci := 2) (C := RM) (T := TM) (N := 14) (v := .ref (ad 4)) hx hb hts inM hown hE hP 0 (by decide) rfl rfl 5 (by decide) w_321 rfl rfl dM_turn_22 ?_
  refine lv_iload_n hx hb dM_turn_25 rfl (lv_at hl 1 rfl) ?_
  refine ln_iald (L := 441) (g := (M_1 4).1) hx hb hE hP 4 0 (by decide) (rfl) rfl (by omega) (by decide) dM_turn_26 ?_
  refine bc_callv (bc_runS (own := RM) (As := [.ref (ad 9), .int (nI 0), .int ((M_1 4).1 u)]) (rest := []) hx hb (hml.trans hl.1.symm) hown hts (kM_axis0 l D cs ad hI M_1 H.size 9 (by decide) (fun _ => rfl) ((M_1 4).1 u)) w_424 w_422 w_423 w_4 hd_M_axis rfl ⟨rfl, rfl⟩ ⟨Nat.le_of_ble_eq_true rfl, Nat.le_of_ble_eq_true rfl⟩ (fun _ _ _ _ h => h.calling) (fun U hU hW => ⟨by rw [hU], by rw [hU]; exact hP, hE.warm hW⟩) rfl (Nat.le_of_ble_eq_true rfl) dM_turn_27 ⟨Nat.le_of_ble_eq_true rfl, Nat.le_of_ble_eq_true rfl⟩) hS (fun M_2 H locs hr_27 hP hS => ?_)
  refine lv_aload_n hx hb dM_turn_30 rfl (lv_at hl 0 rfl) ?_
  refine bc_callv (bc_runV (own := RM) (C := RM) (As := []) (rest := []) hx hb (hml.trans hl.1.symm) hown hts (kM_times l D cs ad hI M_2 H.size (jspin (fun _ => 0) 2 0 ((M 4).1 (u + 1))) (jspin (fun _ => 0) 1 2 ((M 4).1 u)) (by rw [hr_27.1 8 (by decide)]; exact hr_13.2) (by rw [← hr_13.1 4 (by decide)]; exact hr_27.2)) w_438 w_435 w_437 ws_sel_M_times w_4 ⟨rfl, hd_M_times⟩ rfl ⟨rfl, rfl⟩ ⟨Nat.le_of_ble_eq_true rfl, Nat.le_of_ble_eq_true rfl⟩ (fun _ _ _ _ h => h.calling) (bc_recv (r := (RM, TM, 14)) hE hP 0 (by decide) rfl rfl) (fun U hU hW => ⟨by rw [hU], by rw [hU]; exact hP, hE.warm hW⟩) rfl (Nat.le_of_ble_eq_true rfl) dM_turn_31 ⟨Nat.le_of_ble_eq_true rfl, Nat.le_of_ble_eq_true rfl⟩) hS (fun M_3 H locs hr_31 hP hS => ?_)
  refine lv_aload_n hx hb dM_turn_34 rfl (lv_at hl 0 rfl) ?_
  refine bw_get (own := RM) (ci := 2) (C := RM) (T := TM) (N := 14) (v := .ref (ad 7)) hx hb hts inM hown hE hP 0 (by decide) rfl rfl 8 (by decide) w_324 rfl rfl dM_turn_35 ?_
  refine lv_aload_n hx hb dM_turn_38 rfl (lv_at hl 0 rfl) ?_
  refine bw_get (own := RM) (ci := 2) (C := RM) (T := TM) (N := 14) (v := .ref (ad 8)) hx hb hts inM hown hE hP 0 (by decide) rfl rfl 9 (by decide) w_325 rfl rfl dM_turn_39 ?_
  refine bc_callv (bc_runS (own := RM) (As := [.ref (ad 7), .ref (ad 8)]) (rest := []) hx hb (hml.trans hl.1.symm) hown hts (kM_copy l D cs ad hI M_3 H.size 7 8 (by decide) (by decide) (fun _ => rfl) (fun _ => rfl) (by decide)) w_449 w_447 w_448 w_4 hd_M_copy rfl ⟨rfl, rfl⟩ ⟨Nat.le_of_ble_eq_true rfl, Nat.le_of_ble_eq_true rfl⟩ (fun _ _ _ _ h => h.calling) (fun U hU hW => ⟨by rw [hU], by rw [hU]; exact hP, hE.warm hW⟩) rfl (Nat.le_of_ble_eq_true rfl) dM_turn_42 ⟨Nat.le_of_ble_eq_true rfl, Nat.le_of_ble_eq_true rfl⟩) hS (fun M_4 H locs hr_42 hP hS => ?_)
  refine lv_aload_n hx hb dM_turn_45 rfl (lv_at hl 0 rfl) ?_
  refine bw_get (own := RM) (ci := 2) (C := RM) (T := TM) (N := 14) (v := .ref (ad 9)) hx hb hts inM hown hE hP 0 (by decide) rfl rfl 10 (by decide) w_326 rfl rfl dM_turn_46 ?_
  refine lv_iconst (v := nI 2) hx hb dM_turn_49 (by decide) ?_
  refine lv_aload_n hx hb dM_turn_50 rfl (lv_at hl 0 rfl) ?_
  refine bw_get (own := RM) (ci := 2) (C := RM) (T := TM) (N := 14) (v := .ref (ad 4)) hx hb hts inM hown hE hP 0 (by decide) rfl rfl 5 (by decide) w_321 rfl rfl dM_turn_51 ?_
  refine lv_iload_n hx hb dM_turn_54 rfl (lv_at hl 1 rfl) ?_
  refine lv_iconst (v := nI 2) hx hb dM_turn_55 (by decide) ?_
  refine ln_iadd hx hb dM_turn_56 ?_
  refine ln_iald (L := 441) (g := (M_4 4).1) hx hb hE hP 4 0 (by decide) (rfl) rfl (by omega) (by decide) dM_turn_57 ?_
  refine bc_callv (bc_runS (own := RM) (As := [.ref (ad 9), .int (nI 2), .int ((M_4 4).1 (u + 2))]) (rest := []) hx hb (hml.trans hl.1.symm) hown hts (kM_axis2 l D cs ad hI M_4 H.size 9 (by decide) (fun _ => rfl) ((M_4 4).1 (u + 2))) w_424 w_422 w_423 w_4 hd_M_axis rfl ⟨rfl, rfl⟩ ⟨Nat.le_of_ble_eq_true rfl, Nat.le_of_ble_eq_true rfl⟩ (fun _ _ _ _ h => h.calling) (fun U hU hW => ⟨by rw [hU], by rw [hU]; exact hP, hE.warm hW⟩) rfl (Nat.le_of_ble_eq_true rfl) dM_turn_58 ⟨Nat.le_of_ble_eq_true rfl, Nat.le_of_ble_eq_true rfl⟩) hS (fun M_5 H locs hr_58 hP hS => ?_)
  have h4 : (M_4 4).1 = (M 4).1 := by rw [hr_42.1 4 (by decide), hr_31.1 4 (by decide), hr_27.1 4 (by decide), hr_13.1 4 (by decide)]
  refine lv_aload_n hx hb dM_turn_61 rfl (lv_at hl 0 rfl) ?_
  refine bc_callv (bc_runV (own := RM) (C := RM) (As := []) (rest := []) hx hb (hml.trans hl.1.symm) hown hts (kM_times l D cs ad hI M_5 H.size (jmat (jspin (fun _ => 0) 2 0 ((M 4).1 (u + 1))) (jspin (fun _ => 0) 1 2 ((M 4).1 u))) (jspin (fun _ => 0) 0 1 ((M 4).1 (u + 2))) (by rw [hr_58.1 8 (by decide)]; exact hr_42.lm hr_31.2) (by rw [← h4]; exact hr_58.2)) w_438 w_435 w_437 ws_sel_M_times w_4 ⟨rfl, hd_M_times⟩ rfl ⟨rfl, rfl⟩ ⟨Nat.le_of_ble_eq_true rfl, Nat.le_of_ble_eq_true rfl⟩ (fun _ _ _ _ h => h.calling) (bc_recv (r := (RM, TM, 14)) hE hP 0 (by decide) rfl rfl) (fun U hU hW => ⟨by rw [hU], by rw [hU]; exact hP, hE.warm hW⟩) rfl (Nat.le_of_ble_eq_true rfl) dM_turn_62 ⟨Nat.le_of_ble_eq_true rfl, Nat.le_of_ble_eq_true rfl⟩) hS (fun M_6 H locs hr_62 hP hS => ?_)
  refine lv_aload_n hx hb dM_turn_65 rfl (lv_at hl 0 rfl) ?_
  refine bw_get (own := RM) (ci := 2) (C := RM) (T := TM) (N := 14) (v := .ref (ad 7)) hx hb hts inM hown hE hP 0 (by decide) rfl rfl 8 (by decide) w_324 rfl rfl dM_turn_66 ?_
  refine lv_aload_n hx hb dM_turn_69 rfl (lv_at hl 0 rfl) ?_
  refine bw_get (own := RM) (ci := 2) (C := RM) (T := TM) (N := 14) (v := .ref (ad 10)) hx hb hts inM hown hE hP 0 (by decide) rfl rfl 11 (by decide) w_327 rfl rfl dM_turn_70 ?_
  refine bc_callv (bc_runS (own := RM) (As := [.ref (ad 7), .ref (ad 10)]) (rest := []) hx hb (hml.trans hl.1.symm) hown hts (kM_copy l D cs ad hI M_6 H.size 7 10 (by decide) (by decide) (fun _ => rfl) (fun _ => rfl) (by decide)) w_449 w_447 w_448 w_4 hd_M_copy rfl ⟨rfl, rfl⟩ ⟨Nat.le_of_ble_eq_true rfl, Nat.le_of_ble_eq_true rfl⟩ (fun _ _ _ _ h => h.calling) (fun U hU hW => ⟨by rw [hU], by rw [hU]; exact hP, hE.warm hW⟩) rfl (Nat.le_of_ble_eq_true rfl) dM_turn_73 ⟨Nat.le_of_ble_eq_true rfl, Nat.le_of_ble_eq_true rfl⟩) hS (fun M_7 H locs hr_73 hP hS => ?_)
  exact W.vret hx hb hr (fun t ht hW => ⟨⟨M_7, rfl, ⟨fun q hq => by rw [hr_73.1 q (by omega), hr_62.1 q (by omega), hr_58.1 q (by omega), hr_42.1 q (by omega), hr_31.1 q (by omega), hr_27.1 q (by omega), hr_13.1 q (by omega)], hr_73.lm hr_62.2⟩, by show va_P _ _ _ t.heap; rw [ht]; exact hP⟩, hS.F ht⟩) hS.2.2 dM_turn_76
