/-! THE CLASS'S MATRICES -/
def jsum (a b : Nat → Int32) (i j : Nat) : Int64 := jmul (a (4 * i)).toInt64 (b j).toInt64 + jmul (a (4 * i + 1)).toInt64 (b (4 + j)).toInt64 + jmul (a (4 * i + 2)).toInt64 (b (8 + j)).toInt64
def jprod (a b : Nat → Int32) (i j : Nat) : Int32 := (jcl (if j = 3 then jsum a b i j + (a (4 * i + 3)).toInt64 else jsum a b i j)).toInt32
abbrev sc12 (cs : Nat → ClassId) (ad : Nat → Nat) (k : Nat) : Prop := ∀ r : Nat → Int32, sc_cell cs ad k r = .inl (cs 0, 12, .inl r)

set_option maxHeartbeats 4000000 in
set_option maxRecDepth 100000 in
/-- (A * B) at i, j -/
theorem kS_productAt (l : Launch) (D : va_G) (cs : Nat → ClassId) (ad : Nat → Nat) (hI : bw_I ad 162) (M : Nat → Nat → Int32) (sz : Nat) (ka kb : Nat) (hka : ka < 162) (hkb : kb < 162) (fa : sc12 cs ad ka) (fb : sc12 cs ad kb) (i j : Nat) (hi : i < 3) (hj : j < 4)  : Met l yS_productAt (wc yS_productAt cS_productAt 7 (some .int)) ({ frames := 2, cells := 0, slots := 0, locals := 38 } : Room) (va_Pc [.ref (ad ka), .ref (ad kb), .int (nI i), .int (nI j)] (sP D cs ad M sz)) (vp_Si (fun r => r = jprod (M ka) (M kb) i j)) 0 0 (fun _ => False) := by
  refine Met.ofW (cc := cS_productAt) (maxL := 7) (ret := (some .int)) (by decide +kernel) rfl ?_
  intro p e s m args below meth c s₁ B hml hv
  obtain ⟨rfl, hsz, hP, hE⟩ := hv
  subst hsz
  have hx := B.exec
  have hb := B.bytes
  have hr := B.returns
  have hts : ∀ w9 ∈ ws_all, w9.before ([.ref (ad ka), .ref (ad kb), .int (nI i), .int (nI j)] : List Value).toArray s = true := fun w9 h => atoms_spec (ws := (wc yS_productAt cS_productAt 7 (some .int))) B.pre w9 (List.mem_cons_of_mem _ h)
  have hown : s.vm.findClass RS = some m.cls := findClass_of_methodNamed B.named
  have hlocks := B.notSynchronized
  have hl := lv_entry ([.ref (ad ka), .ref (ad kb), .int (nI i), .int (nI j)]) (n := 7) (Nat.le_of_ble_eq_true rfl)
  rw [lg_entry_eq]
  generalize (lg_sl ([.ref (ad ka), .ref (ad kb), .int (nI i), .int (nI j)]) ++ List.replicate (7 - (lg_sl ([.ref (ad ka), .ref (ad kb), .int (nI i), .int (nI j)])).length) Slot.unset).toArray = ls at hl ⊢
  have hl : lv_has ls 7 [(0, .ref (ad ka)), (1, .ref (ad kb)), (2, .int (nI i)), (3, .int (nI j))] := hl
  refine lv_iconst (v := nI 4) hx hb dS_productAt_0 (by decide) ?_
  refine lv_iload_n hx hb dS_productAt_1 rfl (lv_at hl 2 rfl) ?_
  refine ln_imul hx hb dS_productAt_2 ?_
  refine lv_istore (lv' := [(4, .int (nI (4 * i))), (0, .ref (ad ka)), (1, .ref (ad kb)), (2, .int (nI i)), (3, .int (nI j))]) hx hb dS_productAt_3 hl (by decide) rfl (fun ls hl => ?_)
  refine lv_aload_n hx hb dS_productAt_5 rfl (lv_at hl 1 rfl) ?_
  refine lv_iload hx hb dS_productAt_6 (lv_at hl 0 rfl) ?_
  refine ln_iald (L := 12) (g := (M ka)) hx hb hE hP ka 0 (hka) (fa _) rfl (by omega) (by decide) dS_productAt_8 ?_
  refine lv_i2l (v := (M ka (4 * i)).toInt64) hx hb dS_productAt_9 rfl ?_
  refine lv_aload_n hx hb dS_productAt_10 rfl (lv_at hl 2 rfl) ?_
  refine lv_iload_n hx hb dS_productAt_11 rfl (lv_at hl 4 rfl) ?_
  refine ln_iald (L := 12) (g := (M kb)) hx hb hE hP kb 0 (hkb) (fb _) rfl (by omega) (by decide) dS_productAt_12 ?_
  refine lv_i2l (v := (M kb j).toInt64) hx hb dS_productAt_13 rfl ?_
  refine vp_callSl (va_Run.run (bc_runS (own := RS) (As := [.long ((M ka (4 * i)).toInt64), .long ((M kb j).toInt64)]) (rest := []) hx hb (hml.trans hl.1.symm) hown hts (kS_mul l ((M ka (4 * i)).toInt64) ((M kb j).toInt64)) w_76 w_74 w_75 w_1 hd_S_mul rfl ⟨rfl, rfl⟩ ⟨Nat.le_of_ble_eq_true rfl, Nat.le_of_ble_eq_true rfl⟩ (fun _ _ _ _ _ => trivial) (fun _ _ _ => trivial) rfl (Nat.le_of_ble_eq_true rfl) dS_productAt_14 ⟨Nat.le_of_ble_eq_true rfl, Nat.le_of_ble_eq_true rfl⟩)) (fun r_14 hr_14 => ?_)
  refine ln_asl (jmul (M ka (4 * i)).toInt64 (M kb j).toInt64) (by exact hr_14) ?_
  refine lv_aload_n hx hb dS_productAt_17 rfl (lv_at hl 1 rfl) ?_
  refine lv_iload hx hb dS_productAt_18 (lv_at hl 0 rfl) ?_
  refine lv_iconst (v := nI 1) hx hb dS_productAt_20 (by decide) ?_
  refine ln_iadd hx hb dS_productAt_21 ?_
  refine ln_iald (L := 12) (g := (M ka)) hx hb hE hP ka 0 (hka) (fa _) rfl (by omega) (by decide) dS_productAt_22 ?_
  refine lv_i2l (v := (M ka ((4 * i) + 1)).toInt64) hx hb dS_productAt_23 rfl ?_
  refine lv_aload_n hx hb dS_productAt_24 rfl (lv_at hl 2 rfl) ?_
  refine lv_iconst (v := nI 4) hx hb dS_productAt_25 (by decide) ?_
  refine lv_iload_n hx hb dS_productAt_26 rfl (lv_at hl 4 rfl) ?_
  refine ln_iadd hx hb dS_productAt_27 ?_
  refine ln_iald (L := 12) (g := (M kb)) hx hb hE hP kb 0 (hkb) (fb _) rfl (by omega) (by decide) dS_productAt_28 ?_
  refine lv_i2l (v := (M kb (4 + j)).toInt64) hx hb dS_productAt_29 rfl ?_
  refine vp_callSl (va_Run.run (bc_runS (own := RS) (As := [.long ((M ka ((4 * i) + 1)).toInt64), .long ((M kb (4 + j)).toInt64)]) (rest := [.long (jmul (M ka (4 * i)).toInt64 (M kb j).toInt64)]) hx hb (hml.trans hl.1.symm) hown hts (kS_mul l ((M ka ((4 * i) + 1)).toInt64) ((M kb (4 + j)).toInt64)) w_76 w_74 w_75 w_1 hd_S_mul rfl ⟨rfl, rfl⟩ ⟨Nat.le_of_ble_eq_true rfl, Nat.le_of_ble_eq_true rfl⟩ (fun _ _ _ _ _ => trivial) (fun _ _ _ => trivial) rfl (Nat.le_of_ble_eq_true rfl) dS_productAt_30 ⟨Nat.le_of_ble_eq_true rfl, Nat.le_of_ble_eq_true rfl⟩)) (fun r_30 hr_30 => ?_)
  refine ln_asl (jmul (M ka (4 * i + 1)).toInt64 (M kb (4 + j)).toInt64) (by exact hr_30) ?_
  refine lv_ladd hx hb dS_productAt_33 ?_
  refine lv_aload_n hx hb dS_productAt_34 rfl (lv_at hl 1 rfl) ?_
  refine lv_iload hx hb dS_productAt_35 (lv_at hl 0 rfl) ?_
  refine lv_iconst (v := nI 2) hx hb dS_productAt_37 (by decide) ?_
  refine ln_iadd hx hb dS_productAt_38 ?_
  refine ln_iald (L := 12) (g := (M ka)) hx hb hE hP ka 0 (hka) (fa _) rfl (by omega) (by decide) dS_productAt_39 ?_
  refine lv_i2l (v := (M ka ((4 * i) + 2)).toInt64) hx hb dS_productAt_40 rfl ?_
  refine lv_aload_n hx hb dS_productAt_41 rfl (lv_at hl 2 rfl) ?_
  refine lv_bipush (v := nI 8) hx hb dS_productAt_42 (by decide) ?_
  refine lv_iload_n hx hb dS_productAt_44 rfl (lv_at hl 4 rfl) ?_
  refine ln_iadd hx hb dS_productAt_45 ?_
  refine ln_iald (L := 12) (g := (M kb)) hx hb hE hP kb 0 (hkb) (fb _) rfl (by omega) (by decide) dS_productAt_46 ?_
  refine lv_i2l (v := (M kb (8 + j)).toInt64) hx hb dS_productAt_47 rfl ?_
  refine vp_callSl (va_Run.run (bc_runS (own := RS) (As := [.long ((M ka ((4 * i) + 2)).toInt64), .long ((M kb (8 + j)).toInt64)]) (rest := [.long ((jmul (M ka (4 * i)).toInt64 (M kb j).toInt64) + (jmul (M ka (4 * i + 1)).toInt64 (M kb (4 + j)).toInt64))]) hx hb (hml.trans hl.1.symm) hown hts (kS_mul l ((M ka ((4 * i) + 2)).toInt64) ((M kb (8 + j)).toInt64)) w_76 w_74 w_75 w_1 hd_S_mul rfl ⟨rfl, rfl⟩ ⟨Nat.le_of_ble_eq_true rfl, Nat.le_of_ble_eq_true rfl⟩ (fun _ _ _ _ _ => trivial) (fun _ _ _ => trivial) rfl (Nat.le_of_ble_eq_true rfl) dS_productAt_48 ⟨Nat.le_of_ble_eq_true rfl, Nat.le_of_ble_eq_true rfl⟩)) (fun r_48 hr_48 => ?_)
  refine ln_asl (jmul (M ka (4 * i + 2)).toInt64 (M kb (8 + j)).toInt64) (by exact hr_48) ?_
  refine lv_ladd hx hb dS_productAt_51 ?_
  refine ln_asl (jsum (M ka) (M kb) i j) (by rfl) ?_
  refine lv_lstore (lv' := [(5, .long (jsum (M ka) (M kb) i j)), (4, .int (nI (4 * i))), (0, .ref (ad ka)), (1, .ref (ad kb)), (2, .int (nI i)), (3, .int (nI j))]) hx hb dS_productAt_52 hl (by decide) rfl (fun ls hl => ?_)
  refine lv_iload_n hx hb dS_productAt_54 rfl (lv_at hl 5 rfl) ?_
  refine lv_iconst (v := nI 3) hx hb dS_productAt_55 (by decide) ?_
  refine ln_icmp_ne (tgt := 72) hx hb dS_productAt_56 (by decide) (by omega) (by omega) (fun c_56 => ?_) (fun c_56 => ?_)
  · skip
    refine lv_lload hx hb dS_productAt_72 (lv_at hl 0 rfl) ?_
    refine vp_callSi (va_Run.run (bc_runS (own := RS) (As := [.long (jsum (M ka) (M kb) i j)]) (rest := []) hx hb (hml.trans hl.1.symm) hown hts (kS_bound l (jsum (M ka) (M kb) i j)) w_79 w_77 w_78 w_1 hd_S_bound rfl ⟨rfl, rfl⟩ ⟨Nat.le_of_ble_eq_true rfl, Nat.le_of_ble_eq_true rfl⟩ (fun _ _ _ _ _ => trivial) (fun _ _ _ => trivial) rfl (Nat.le_of_ble_eq_true rfl) dS_productAt_74 ⟨Nat.le_of_ble_eq_true rfl, Nat.le_of_ble_eq_true rfl⟩)) (fun r_74 hr_74 => ?_)
    exact W.iret (v := r_74) hx hb hr (fun t ht hW => ⟨_, rfl, by rw [hr_74]; unfold jprod; rw [if_neg c_56], ht⟩) (fun _ h => nomatch h) dS_productAt_77
  · skip
    refine lv_lload hx hb dS_productAt_59 (lv_at hl 0 rfl) ?_
    refine lv_aload_n hx hb dS_productAt_61 rfl (lv_at hl 2 rfl) ?_
    refine lv_iload hx hb dS_productAt_62 (lv_at hl 1 rfl) ?_
    refine lv_iconst (v := nI 3) hx hb dS_productAt_64 (by decide) ?_
    refine ln_iadd hx hb dS_productAt_65 ?_
    refine ln_iald (L := 12) (g := (M ka)) hx hb hE hP ka 0 (hka) (fa _) rfl (by omega) (by decide) dS_productAt_66 ?_
    refine lv_i2l (v := (M ka ((4 * i) + 3)).toInt64) hx hb dS_productAt_67 rfl ?_
    refine lv_ladd hx hb dS_productAt_68 ?_
    refine lv_goto (tgt := 74) hx hb dS_productAt_69 (by decide) ?_
    refine vp_callSi (va_Run.run (bc_runS (own := RS) (As := [.long ((jsum (M ka) (M kb) i j) + ((M ka ((4 * i) + 3)).toInt64))]) (rest := []) hx hb (hml.trans hl.1.symm) hown hts (kS_bound l ((jsum (M ka) (M kb) i j) + ((M ka ((4 * i) + 3)).toInt64))) w_79 w_77 w_78 w_1 hd_S_bound rfl ⟨rfl, rfl⟩ ⟨Nat.le_of_ble_eq_true rfl, Nat.le_of_ble_eq_true rfl⟩ (fun _ _ _ _ _ => trivial) (fun _ _ _ => trivial) rfl (Nat.le_of_ble_eq_true rfl) dS_productAt_74 ⟨Nat.le_of_ble_eq_true rfl, Nat.le_of_ble_eq_true rfl⟩)) (fun r_74 hr_74 => ?_)
    exact W.iret (v := r_74) hx hb hr (fun t ht hW => ⟨_, rfl, by rw [hr_74]; unfold jprod; rw [if_pos c_56], ht⟩) (fun _ h => nomatch h) dS_productAt_77

theorem mul_step {M M1 M2 : Nat → Nat → Int32} {ka kb kc i j : Nat} {r : Int32} (h : (∀ q, q ≠ kc → M1 q = M q) ∧ ∀ a b, a < 3 → b < 4 → 4 * a + b < 4 * i + j → M1 kc (4 * a + b) = jprod (M ka) (M kb) a b) (e : M2 = va_up M1 kc (upd (M1 kc) (4 * i + j) r)) (hr : r = jprod (M ka) (M kb) i j) (hi : i < 3) (hj : j < 4) : (∀ q, q ≠ kc → M2 q = M q) ∧ ∀ a b, a < 3 → b < 4 → 4 * a + b < 4 * i + (j + 1) → M2 kc (4 * a + b) = jprod (M ka) (M kb) a b := by
  subst e
  refine ⟨fun q hq => by rw [va_up_ne _ _ hq]; exact h.1 q hq, fun a b h1 h2 h3 => ?_⟩
  rw [va_up_self]
  by_cases hq : 4 * a + b = 4 * i + j
  · have h4 : a = i ∧ b = j := by omega
    obtain ⟨rfl, rfl⟩ := h4
    rw [pk_us, hr]
  · rw [pk_un hq]
    exact h.2 a b h1 h2 (by omega)

set_option maxHeartbeats 4000000 in
set_option maxRecDepth 100000 in
/-- the product, into a third matrix -/
theorem kS_multiply (l : Launch) (D : va_G) (cs : Nat → ClassId) (ad : Nat → Nat) (hI : bw_I ad 162) (M : Nat → Nat → Int32) (sz : Nat) (ka kb kc : Nat) (hka : ka < 162) (hkb : kb < 162) (hkc : kc < 162) (fa : sc12 cs ad ka) (fb : sc12 cs ad kb) (fc : sc12 cs ad kc) (ha : ka ≠ kc) (hb0 : kb ≠ kc)  : Met l yS_multiply (wc yS_multiply cS_multiply 5 none) ({ frames := 3, cells := 0, slots := 0, locals := 64 } : Room) (va_Pc [.ref (ad ka), .ref (ad kb), .ref (ad kc)] (sP D cs ad M sz)) (bQv D ad 162 (sc_cell cs ad) sz (fun M1 => (∀ q, q ≠ kc → M1 q = M q) ∧ ∀ i j, i < 3 → j < 4 → M1 kc (4 * i + j) = jprod (M ka) (M kb) i j)) 0 0 (bw_A ad 162 sz) := by
  refine Met.ofW (cc := cS_multiply) (maxL := 5) (ret := none) (by decide +kernel) rfl ?_
  intro p e s m args below meth c s₁ B hml hv
  obtain ⟨rfl, hsz, hP, hE⟩ := hv
  subst hsz
  have hx := B.exec
  have hb := B.bytes
  have hr := B.returns
  have hts : ∀ w9 ∈ ws_all, w9.before ([.ref (ad ka), .ref (ad kb), .ref (ad kc)] : List Value).toArray s = true := fun w9 h => atoms_spec (ws := (wc yS_multiply cS_multiply 5 none)) B.pre w9 (List.mem_cons_of_mem _ h)
  have hown : s.vm.findClass RS = some m.cls := findClass_of_methodNamed B.named
  have hlocks := B.notSynchronized
  have hS : va_S (bw_A ad 162 s.heap.size) s.heap s.heap [] := va_S.rf
  have hl := lv_entry ([.ref (ad ka), .ref (ad kb), .ref (ad kc)]) (n := 5) (Nat.le_of_ble_eq_true rfl)
  rw [lg_entry_eq]
  generalize (lg_sl ([.ref (ad ka), .ref (ad kb), .ref (ad kc)]) ++ List.replicate (5 - (lg_sl ([.ref (ad ka), .ref (ad kb), .ref (ad kc)])).length) Slot.unset).toArray = ls at hl ⊢
  have hl : lv_has ls 5 [(0, .ref (ad ka)), (1, .ref (ad kb)), (2, .ref (ad kc))] := hl
  have loop : ∀ k : Nat, (∀ (i : Nat)  (M1 : Nat → Nat → Int32) (H : Heap) (locs : List Loc) (ls : Array Slot), i ≤ 3 → ((∀ q, q ≠ kc → M1 q = M q) ∧ ∀ a b, a < 3 → b < 4 → 4 * a + b < 4 * i → M1 kc (4 * a + b) = jprod (M ka) (M kb) a b) → 6 * (3 - i) < k → va_P D cls3 (bw ad 162 (fun j => sc_cell cs ad j (M1 j))) H → va_S (bw_A ad 162 s.heap.size) s.heap H locs → lv_has ls 5 [(3, .int (nI i)), (0, .ref (ad ka)), (1, .ref (ad kb)), (2, .ref (ad kc))] → W p l e (headSpec (wc yS_multiply cS_multiply 5 none) ({ frames := 3, cells := 0, slots := 0, locals := 64 } : Room)).room s m ([.ref (ad ka), .ref (ad kb), .ref (ad kc)] : List Value).toArray below meth c H locs 0 0 (MQ below (bQv D ad 162 (sc_cell cs ad) s.heap.size (fun M1 => (∀ q, q ≠ kc → M1 q = M q) ∧ ∀ i j, i < 3 → j < 4 → M1 kc (4 * i + j) = jprod (M ka) (M kb) i j)) ([.ref (ad ka), .ref (ad kb), .ref (ad kc)] : List Value).toArray s 0 0 (bw_A ad 162 s.heap.size)) (F0 m 2 ls [])) ∧ (∀ (i : Nat) (j : Nat)  (M1 : Nat → Nat → Int32) (H : Heap) (locs : List Loc) (ls : Array Slot), i < 3 → j ≤ 4 → ((∀ q, q ≠ kc → M1 q = M q) ∧ ∀ a b, a < 3 → b < 4 → 4 * a + b < 4 * i + j → M1 kc (4 * a + b) = jprod (M ka) (M kb) a b) → 6 * (3 - i) - 1 - j < k → va_P D cls3 (bw ad 162 (fun j => sc_cell cs ad j (M1 j))) H → va_S (bw_A ad 162 s.heap.size) s.heap H locs → lv_has ls 5 [(3, .int (nI i)), (4, .int (nI j)), (0, .ref (ad ka)), (1, .ref (ad kb)), (2, .ref (ad kc))] → W p l e (headSpec (wc yS_multiply cS_multiply 5 none) ({ frames := 3, cells := 0, slots := 0, locals := 64 } : Room)).room s m ([.ref (ad ka), .ref (ad kb), .ref (ad kc)] : List Value).toArray below meth c H locs 0 0 (MQ below (bQv D ad 162 (sc_cell cs ad) s.heap.size (fun M1 => (∀ q, q ≠ kc → M1 q = M q) ∧ ∀ i j, i < 3 → j < 4 → M1 kc (4 * i + j) = jprod (M ka) (M kb) i j)) ([.ref (ad ka), .ref (ad kb), .ref (ad kc)] : List Value).toArray s 0 0 (bw_A ad 162 s.heap.size)) (F0 m 10 ls [])) := by
    intro k
    induction k with
    | zero => exact ⟨by intros; omega, by intros; omega⟩
    | succ k ih =>
      refine ⟨?_, ?_⟩
      · skip
        intro i  M1 H locs ls hi hinv hmu hP hS hl
        refine lv_iload_n hx hb dS_multiply_2 rfl (lv_at hl 0 rfl) ?_
        refine lv_iconst (v := nI 3) hx hb dS_multiply_3 (by decide) ?_
        refine ln_icmp_ge (tgt := 44) hx hb dS_multiply_4 (by decide) (by omega) (by omega) (fun c_4 => ?_) (fun c_4 => ?_)
        · skip
          exact W.vret hx hb hr (fun t ht hW => ⟨⟨M1, rfl, ⟨hinv.1, fun a b h1 h2 => hinv.2 a b h1 h2 (by omega)⟩, by show va_P _ _ _ t.heap; rw [ht]; exact hP⟩, hS.F ht⟩) hS.2.2 dS_multiply_44
        · skip
          refine lv_iconst (v := nI 0) hx hb dS_multiply_7 (by decide) ?_
          refine lv_istore (lv' := [(4, .int (nI 0)), (3, .int (nI i)), (0, .ref (ad ka)), (1, .ref (ad kb)), (2, .ref (ad kc))]) hx hb dS_multiply_8 hl (by decide) rfl (fun ls hl => ?_)
          exact ih.2 i 0  M1 H locs ls (by omega) (by omega) (⟨hinv.1, fun a b h1 h2 h3 => hinv.2 a b h1 h2 (by omega)⟩) (by omega) hP hS (lv_sub hl [1, 0, 2, 3, 4] rfl)
      · skip
        intro i j  M1 H locs ls hi hj0 hinv hmu hP hS hl
        refine lv_iload hx hb dS_multiply_10 (lv_at hl 1 rfl) ?_
        refine lv_iconst (v := nI 4) hx hb dS_multiply_12 (by decide) ?_
        refine ln_icmp_ge (tgt := 38) hx hb dS_multiply_13 (by decide) (by omega) (by omega) (fun c_13 => ?_) (fun c_13 => ?_)
        · skip
          refine lv_iinc (v := nI (i + 1)) (lv' := [(3, .int (nI (i + 1))), (4, .int (nI j)), (0, .ref (ad ka)), (1, .ref (ad kb)), (2, .ref (ad kc))]) hx hb dS_multiply_38 hl (k := 0) rfl (nI_add i 1) (by decide) rfl (fun ls hl => ?_)
          refine lv_goto (tgt := 2) hx hb dS_multiply_41 (by decide) ?_
          exact ih.1 (i + 1)  M1 H locs ls (by omega) (⟨hinv.1, fun a b h1 h2 h3 => hinv.2 a b h1 h2 (by omega)⟩) (by omega) hP hS (lv_sub hl [0, 2, 3, 4] rfl)
        · skip
          have hj : j < 4 := c_13
          refine lv_aload_n hx hb dS_multiply_16 rfl (lv_at hl 4 rfl) ?_
          refine lv_iconst (v := nI 4) hx hb dS_multiply_17 (by decide) ?_
          refine lv_iload_n hx hb dS_multiply_18 rfl (lv_at hl 0 rfl) ?_
          refine ln_imul hx hb dS_multiply_19 ?_
          refine lv_iload hx hb dS_multiply_20 (lv_at hl 1 rfl) ?_
          refine ln_iadd hx hb dS_multiply_22 ?_
          refine lv_aload_n hx hb dS_multiply_23 rfl (lv_at hl 2 rfl) ?_
          refine lv_aload_n hx hb dS_multiply_24 rfl (lv_at hl 3 rfl) ?_
          refine lv_iload_n hx hb dS_multiply_25 rfl (lv_at hl 0 rfl) ?_
          refine lv_iload hx hb dS_multiply_26 (lv_at hl 1 rfl) ?_
          refine vp_callSi (va_Run.run (bc_runS (own := RS) (As := [.ref (ad ka), .ref (ad kb), .int (nI i), .int (nI j)]) (rest := [.int (nI ((4 * i) + j)), .ref (ad kc)]) hx hb (hml.trans hl.1.symm) hown hts (kS_productAt l D cs ad hI M1 H.size ka kb hka hkb fa fb i j hi hj) w_73 w_71 w_72 w_1 hd_S_productAt rfl ⟨rfl, rfl⟩ ⟨Nat.le_of_ble_eq_true rfl, Nat.le_of_ble_eq_true rfl⟩ (fun _ _ _ _ h => h.calling) (fun U hU hW => ⟨by rw [hU], by rw [hU]; exact hP, hE.warm hW⟩) rfl (Nat.le_of_ble_eq_true rfl) dS_multiply_28 ⟨Nat.le_of_ble_eq_true rfl, Nat.le_of_ble_eq_true rfl⟩)) (fun r_28 hr_28 => ?_)
          rw [hinv.1 ka ha, hinv.1 kb hb0] at hr_28
          refine ln_iast (L := 12) hx hb hE hI hP hS kc 0 (hkc) (fc _) rfl (by omega) (by decide) (upd (M1 kc) ((4 * i) + j) r_28) (fc _) dS_multiply_31 (fun M_1 H locs eM_1 hP hS => ?_)
          refine lv_iinc (v := nI (j + 1)) (lv' := [(4, .int (nI (j + 1))), (3, .int (nI i)), (0, .ref (ad ka)), (1, .ref (ad kb)), (2, .ref (ad kc))]) hx hb dS_multiply_32 hl (k := 1) rfl (nI_add j 1) (by decide) rfl (fun ls hl => ?_)
          refine lv_goto (tgt := 10) hx hb dS_multiply_35 (by decide) ?_
          exact ih.2 i (j + 1)  M_1 H locs ls (by omega) (by omega) (mul_step hinv eM_1 hr_28 (by omega) hj) (by omega) hP hS (lv_sub hl [1, 0, 2, 3, 4] rfl)
  refine lv_iconst (v := nI 0) hx hb dS_multiply_0 (by decide) ?_
  refine lv_istore_n (lv' := [(3, .int (nI 0)), (0, .ref (ad ka)), (1, .ref (ad kb)), (2, .ref (ad kc))]) hx hb dS_multiply_1 rfl hl (by decide) rfl (fun ls hl => ?_)
  exact (loop 100000).1 0  M s.heap [] ls (by omega) (⟨fun _ _ => rfl, fun a b _ _ h => by omega⟩) (by omega) hP hS (lv_sub hl [0, 1, 2, 3] rfl)
