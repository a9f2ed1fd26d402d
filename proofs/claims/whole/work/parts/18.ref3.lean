/-! THE REFERENCE: LOCAL, WORLD, MODEL -/
/-- a node's nine numbers in the reference -/
def rU (M : Nat → mRow) (n : Nat) : Nat → Int32 := fun j => (M 4).1 (9 * n + j)
def rE (M : Nat → mRow) : Nat → Int32 := fun j => (M 4).1 (432 + j)
theorem jlc_l {T u : Nat → Int32} {i j : Nat} (hj : j ≠ 3) : (jlc T u i j).toInt64 = jcl (jmul (T (4 * i + j)).toInt64 (u (6 + j)).toInt64) := by
  unfold jlc
  rw [if_neg hj, jcl_back]
/-- the way up from d -/
def jpt (par : Nat → Int32) (d : Nat) : Nat → Nat
  | 0 => d
  | i + 1 => (par (jpt par d i)).toNatClampNeg
theorem jpt_next {par : Nat → Int32} {d n q : Nat} (h : par (jpt par d n) = nI q) (hq : q < 2147483648) : jpt par d (n + 1) = q := by
  show (par (jpt par d n)).toNatClampNeg = q
  rw [h, nI_clamp hq]
/-- the way laid down: n steps of it -/
def wInv (M M1 : Nat → mRow) (d n : Nat) : Prop := (∀ q, q ≠ 5 → M1 q = M q) ∧ ∀ i, i < n → (M1 5).1 i = nI (jpt (M 1).1 d i)
theorem wInv.step {M M1 M2 : Nat → mRow} {d n : Nat} (h : wInv M M1 d n) (e : M2 = va_up M1 5 (upd (M1 5).1 n (nI (jpt (M 1).1 d n)), (M1 5).2)) : wInv M M2 d (n + 1) := by
  subst e
  refine ⟨fun q hq => by rw [va_up_ne _ _ hq]; exact h.1 q hq, fun i hi => ?_⟩
  rw [va_up_self]
  by_cases c : i = n
  · subst c; rw [m_us]
  · rw [m_un c]; exact h.2 i (by omega)
/-- going down: made is WORLD of the node at place k + 1 of the way -/
def gInv (M M1 : Nat → mRow) (d n k : Nat) : Prop := (∀ q, (q < 5 ∨ q = 6) → M1 q = M q) ∧ (∀ i, i < n + 1 → (M1 5).1 i = nI (jpt (M 1).1 d i)) ∧ lm (M1 7) (jworld (M 1).1 (fun n => jlocal (rU M n)) (jpt (M 1).1 d k))

set_option maxHeartbeats 4000000 in
set_option maxRecDepth 100000 in
theorem kM_makesLocal (l : Launch) (D : va_G) (cs : Nat → ClassId) (ad : Nat → Nat) (hI : bw_I ad 13) (M : Nat → mRow) (sz : Nat) (d : Nat) (hd : d < 48)  : Met l yM_makesLocal (wc yM_makesLocal cM_makesLocal 4 none) ({ frames := 4, cells := 0, slots := 0, locals := 90 } : Room) (va_Pc [.ref (ad 0), .int (nI d)] (mP D cs ad M sz)) (bQv D ad 13 (mc_cell cs ad) sz (fun M1 => (∀ q, (q < 7 ∨ 12 ≤ q) → M1 q = M q) ∧ lm (M1 11) (jlocal (rU M d)))) 0 0 (bw_A ad 13 sz) := by
  refine Met.ofW (cc := cM_makesLocal) (maxL := 4) (ret := none) (by decide +kernel) rfl ?_
  intro p e s m args below meth c s₁ B hml hv
  obtain ⟨rfl, hsz, hP, hE⟩ := hv
  subst hsz
  have hx := B.exec
  have hb := B.bytes
  have hr := B.returns
  have hts : ∀ w9 ∈ ws_all, w9.before ([.ref (ad 0), .int (nI d)] : List Value).toArray s = true := fun w9 h => atoms_spec (ws := (wc yM_makesLocal cM_makesLocal 4 none)) B.pre w9 (List.mem_cons_of_mem _ h)
  have hown : s.vm.findClass RM = some m.cls := findClass_of_methodNamed B.named
  have hlocks := B.notSynchronized
  have hS : va_S (bw_A ad 13 s.heap.size) s.heap s.heap [] := va_S.rf
  have hl := lv_entry ([.ref (ad 0), .int (nI d)]) (n := 4) (Nat.le_of_ble_eq_true rfl)
  rw [lg_entry_eq]
  generalize (lg_sl ([.ref (ad 0), .int (nI d)]) ++ List.replicate (4 - (lg_sl ([.ref (ad 0), .int (nI d)])).length) Slot.unset).toArray = ls at hl ⊢
  have hl : lv_has ls 4 [(0, .ref (ad 0)), (1, .int (nI d))] := hl
  refine lv_aload_n hx hb dM_makesLocal_0 rfl (lv_at hl 0 rfl) ?_
  refine lv_bipush (v := nI 9) hx hb dM_makesLocal_1 (by decide) ?_
  refine lv_iload_n hx hb dM_makesLocal_3 rfl (lv_at hl 1 rfl) ?_
  refine ln_imul hx hb dM_makesLocal_4 ?_
  refine lv_iconst (v := nI 3) hx hb dM_makesLocal_5 (by decide) ?_
  refine ln_iadd hx hb dM_makesLocal_6 ?_
  refine bc_callv (bc_runV (own := RM) (C := RM) (As := [.int (nI ((9 * d) + 3))]) (rest := []) hx hb (hml.trans hl.1.symm) hown hts (kM_turn l D cs ad hI M s.heap.size (9 * d + 3) (by omega)) w_421 w_418 w_420 ws_sel_M_turn w_4 ⟨rfl, hd_M_turn⟩ rfl ⟨rfl, rfl⟩ ⟨Nat.le_of_ble_eq_true rfl, Nat.le_of_ble_eq_true rfl⟩ (fun _ _ _ _ h => h.calling) (bc_recv (r := (RM, TM, 14)) hE hP 0 (by decide) rfl rfl) (fun U hU hW => ⟨by rw [hU], by rw [hU]; exact hP, hE.warm hW⟩) rfl (Nat.le_of_ble_eq_true rfl) dM_makesLocal_7 ⟨Nat.le_of_ble_eq_true rfl, Nat.le_of_ble_eq_true rfl⟩) hS (fun M_1 H locs hr_7 hP hS => ?_)
  refine lv_iconst (v := nI 0) hx hb dM_makesLocal_10 (by decide) ?_
  refine lv_istore_n (lv' := [(2, .int (nI 0)), (0, .ref (ad 0)), (1, .int (nI d))]) hx hb dM_makesLocal_11 rfl hl (by decide) rfl (fun ls hl => ?_)
  have loop : ∀ kf : Nat, (∀ (i : Nat)  (M1 : Nat → mRow) (H : Heap) (locs : List Loc) (ls : Array Slot), (i ≤ 3) → (lfill M_1 M1 11 (4 * i) (jlc (jturn (rU M d 3) (rU M d 4) (rU M d 5)) (rU M d))) → 6 * (3 - i) < kf → va_P D cls3 (bw ad 13 (fun j => mc_cell cs ad j (M1 j))) H → va_S (bw_A ad 13 s.heap.size) s.heap H locs → lv_has ls 4 [(2, .int (nI i)), (0, .ref (ad 0)), (1, .int (nI d))] → W p l e (headSpec (wc yM_makesLocal cM_makesLocal 4 none) ({ frames := 4, cells := 0, slots := 0, locals := 90 } : Room)).room s m ([.ref (ad 0), .int (nI d)] : List Value).toArray below meth c H locs 0 0 (MQ below (bQv D ad 13 (mc_cell cs ad) s.heap.size (fun M1 => (∀ q, (q < 7 ∨ 12 ≤ q) → M1 q = M q) ∧ lm (M1 11) (jlocal (rU M d)))) ([.ref (ad 0), .int (nI d)] : List Value).toArray s 0 0 (bw_A ad 13 s.heap.size)) (F0 m 12 ls [])) ∧ (∀ (i : Nat) (j : Nat)  (M1 : Nat → mRow) (H : Heap) (locs : List Loc) (ls : Array Slot), (i < 3) → (j ≤ 3) → (lfill M_1 M1 11 (4 * i + j) (jlc (jturn (rU M d 3) (rU M d 4) (rU M d 5)) (rU M d))) → 6 * (3 - i) - 1 - j < kf → va_P D cls3 (bw ad 13 (fun j => mc_cell cs ad j (M1 j))) H → va_S (bw_A ad 13 s.heap.size) s.heap H locs → lv_has ls 4 [(2, .int (nI i)), (3, .int (nI j)), (0, .ref (ad 0)), (1, .int (nI d))] → W p l e (headSpec (wc yM_makesLocal cM_makesLocal 4 none) ({ frames := 4, cells := 0, slots := 0, locals := 90 } : Room)).room s m ([.ref (ad 0), .int (nI d)] : List Value).toArray below meth c H locs 0 0 (MQ below (bQv D ad 13 (mc_cell cs ad) s.heap.size (fun M1 => (∀ q, (q < 7 ∨ 12 ≤ q) → M1 q = M q) ∧ lm (M1 11) (jlocal (rU M d)))) ([.ref (ad 0), .int (nI d)] : List Value).toArray s 0 0 (bw_A ad 13 s.heap.size)) (F0 m 19 ls [])) := by
    intro kf
    induction kf with
    | zero => exact ⟨by intros; omega, by intros; omega⟩
    | succ kf ih =>
      refine ⟨?_, ?_⟩
      · skip
        intro i  M1 H locs ls hi hinv hmu hP hS hl
        refine lv_iload_n hx hb dM_makesLocal_12 rfl (lv_at hl 0 rfl) ?_
        refine lv_iconst (v := nI 3) hx hb dM_makesLocal_13 (by decide) ?_
        refine ln_icmp_ge (tgt := 99) hx hb dM_makesLocal_14 (by decide) (by omega) (by omega) (fun c_14 => ?_) (fun c_14 => ?_)
        · skip
          exact W.vret hx hb hr (fun t ht hW => ⟨⟨M1, rfl, ⟨fun q hq => (hinv.1 q (by omega)).trans (hr_7.1 q (by omega)), lfill.done (hinv.le (by omega))⟩, by show va_P _ _ _ t.heap; rw [ht]; exact hP⟩, hS.F ht⟩) hS.2.2 dM_makesLocal_99
        · skip
          refine lv_iconst (v := nI 0) hx hb dM_makesLocal_17 (by decide) ?_
          refine lv_istore_n (lv' := [(3, .int (nI 0)), (2, .int (nI i)), (0, .ref (ad 0)), (1, .int (nI d))]) hx hb dM_makesLocal_18 rfl hl (by decide) rfl (fun ls hl => ?_)
          exact ih.2 i 0  M1 H locs ls (by omega) (by omega) (hinv) (by omega) hP hS (lv_sub hl [1, 0, 2, 3] rfl)
      · skip
        intro i j  M1 H locs ls hi hj0 hinv hmu hP hS hl
        refine lv_iload_n hx hb dM_makesLocal_19 rfl (lv_at hl 1 rfl) ?_
        refine lv_iconst (v := nI 3) hx hb dM_makesLocal_20 (by decide) ?_
        refine ln_icmp_ge (tgt := 71) hx hb dM_makesLocal_21 (by decide) (by omega) (by omega) (fun c_21 => ?_) (fun c_21 => ?_)
        · skip
          have hj3 : j = 3 := by omega
          rw [hj3] at hinv
          refine lv_aload_n hx hb dM_makesLocal_71 rfl (lv_at hl 2 rfl) ?_
          refine bw_get (own := RM) (ci := 2) (C := RM) (T := TM) (N := 14) (v := .ref (ad 11)) hx hb hts inM hown hE hP 0 (by decide) rfl rfl 12 (by decide) w_328 rfl rfl dM_makesLocal_72 ?_
          refine lv_iconst (v := nI 4) hx hb dM_makesLocal_75 (by decide) ?_
          refine lv_iload_n hx hb dM_makesLocal_76 rfl (lv_at hl 0 rfl) ?_
          refine ln_imul hx hb dM_makesLocal_77 ?_
          refine lv_iconst (v := nI 3) hx hb dM_makesLocal_78 (by decide) ?_
          refine ln_iadd hx hb dM_makesLocal_79 ?_
          refine lv_aload_n hx hb dM_makesLocal_80 rfl (lv_at hl 2 rfl) ?_
          refine bw_get (own := RM) (ci := 2) (C := RM) (T := TM) (N := 14) (v := .ref (ad 4)) hx hb hts inM hown hE hP 0 (by decide) rfl rfl 5 (by decide) w_321 rfl rfl dM_makesLocal_81 ?_
          refine lv_bipush (v := nI 9) hx hb dM_makesLocal_84 (by decide) ?_
          refine lv_iload_n hx hb dM_makesLocal_86 rfl (lv_at hl 3 rfl) ?_
          refine ln_imul hx hb dM_makesLocal_87 ?_
          refine lv_iload_n hx hb dM_makesLocal_88 rfl (lv_at hl 0 rfl) ?_
          refine ln_iadd hx hb dM_makesLocal_89 ?_
          refine ln_iald (L := 441) (g := (M1 4).1) hx hb hE hP 4 0 (by decide) (rfl) rfl (by omega) (by decide) dM_makesLocal_90 ?_
          refine lv_i2l (v := ((M1 4).1 ((9 * d) + i)).toInt64) hx hb dM_makesLocal_91 rfl ?_
          refine ln_last (L := 12) hx hb hE hI hP hS 11 3 (by decide) (rfl) rfl (by omega) (by decide) (((M1 11).1, vp_updL (M1 11).2 ((4 * i) + 3) (((M1 4).1 ((9 * d) + i)).toInt64))) (rfl) dM_makesLocal_92 (fun M_2 H locs eM_2 hP hS => ?_)
          refine lv_iinc (v := nI (i + 1)) (lv' := [(2, .int (nI (i + 1))), (3, .int (nI j)), (0, .ref (ad 0)), (1, .int (nI d))]) hx hb dM_makesLocal_93 hl (k := 0) rfl (nI_add i 1) (by decide) rfl (fun ls hl => ?_)
          refine lv_goto (tgt := 12) hx hb dM_makesLocal_96 (by decide) ?_
          exact ih.1 (i + 1)  M_2 H locs ls (by omega) (lfill.le (hinv.step eM_2 (by rw [hinv.1 4 (by decide), hr_7.1 4 (by decide)]; unfold jlc rU; rw [if_pos rfl, show 9 * d + (0 + i) = 9 * d + i by omega]) (by decide)) (by omega)) (by omega) hP hS (lv_sub hl [0, 2, 3] rfl)
        · skip
          refine lv_aload_n hx hb dM_makesLocal_24 rfl (lv_at hl 2 rfl) ?_
          refine bw_get (own := RM) (ci := 2) (C := RM) (T := TM) (N := 14) (v := .ref (ad 11)) hx hb hts inM hown hE hP 0 (by decide) rfl rfl 12 (by decide) w_328 rfl rfl dM_makesLocal_25 ?_
          refine lv_iconst (v := nI 4) hx hb dM_makesLocal_28 (by decide) ?_
          refine lv_iload_n hx hb dM_makesLocal_29 rfl (lv_at hl 0 rfl) ?_
          refine ln_imul hx hb dM_makesLocal_30 ?_
          refine lv_iload_n hx hb dM_makesLocal_31 rfl (lv_at hl 1 rfl) ?_
          refine ln_iadd hx hb dM_makesLocal_32 ?_
          refine lv_aload_n hx hb dM_makesLocal_33 rfl (lv_at hl 2 rfl) ?_
          refine bw_get (own := RM) (ci := 2) (C := RM) (T := TM) (N := 14) (v := .ref (ad 10)) hx hb hts inM hown hE hP 0 (by decide) rfl rfl 11 (by decide) w_327 rfl rfl dM_makesLocal_34 ?_
          refine lv_iconst (v := nI 4) hx hb dM_makesLocal_37 (by decide) ?_
          refine lv_iload_n hx hb dM_makesLocal_38 rfl (lv_at hl 0 rfl) ?_
          refine ln_imul hx hb dM_makesLocal_39 ?_
          refine lv_iload_n hx hb dM_makesLocal_40 rfl (lv_at hl 1 rfl) ?_
          refine ln_iadd hx hb dM_makesLocal_41 ?_
          refine ln_lald (L := 12) (g := (M1 10).2) hx hb hE hP 10 3 (by decide) (rfl) rfl (by omega) (by decide) dM_makesLocal_42 ?_
          refine lv_aload_n hx hb dM_makesLocal_43 rfl (lv_at hl 2 rfl) ?_
          refine bw_get (own := RM) (ci := 2) (C := RM) (T := TM) (N := 14) (v := .ref (ad 4)) hx hb hts inM hown hE hP 0 (by decide) rfl rfl 5 (by decide) w_321 rfl rfl dM_makesLocal_44 ?_
          refine lv_bipush (v := nI 9) hx hb dM_makesLocal_47 (by decide) ?_
          refine lv_iload_n hx hb dM_makesLocal_49 rfl (lv_at hl 3 rfl) ?_
          refine ln_imul hx hb dM_makesLocal_50 ?_
          refine lv_bipush (v := nI 6) hx hb dM_makesLocal_51 (by decide) ?_
          refine ln_iadd hx hb dM_makesLocal_53 ?_
          refine lv_iload_n hx hb dM_makesLocal_54 rfl (lv_at hl 1 rfl) ?_
          refine ln_iadd hx hb dM_makesLocal_55 ?_
          refine ln_iald (L := 441) (g := (M1 4).1) hx hb hE hP 4 0 (by decide) (rfl) rfl (by omega) (by decide) dM_makesLocal_56 ?_
          refine lv_i2l (v := ((M1 4).1 (((9 * d) + 6) + j)).toInt64) hx hb dM_makesLocal_57 rfl ?_
          refine vp_callSl (va_Run.run (bc_runS (own := RM) (As := [.long ((M1 10).2 ((4 * i) + j)), .long (((M1 4).1 (((9 * d) + 6) + j)).toInt64)]) (rest := [.int (nI ((4 * i) + j)), .ref (ad 11)]) hx hb (hml.trans hl.1.symm) hown hts (kM_mul l ((M1 10).2 ((4 * i) + j)) (((M1 4).1 (((9 * d) + 6) + j)).toInt64)) w_441 w_439 w_440 w_4 hd_M_mul rfl ⟨rfl, rfl⟩ ⟨Nat.le_of_ble_eq_true rfl, Nat.le_of_ble_eq_true rfl⟩ (fun _ _ _ _ _ => trivial) (fun _ _ _ => trivial) rfl (Nat.le_of_ble_eq_true rfl) dM_makesLocal_58 ⟨Nat.le_of_ble_eq_true rfl, Nat.le_of_ble_eq_true rfl⟩)) (fun r_58 hr_58 => ?_)
          refine ln_asl (jmul (jturn (rU M d 3) (rU M d 4) (rU M d 5) (4 * i + j)).toInt64 (rU M d (6 + j)).toInt64) (by rw [hr_58, hinv.1 10 (by decide), hr_7.2 (4 * i + j) (by omega), hinv.1 4 (by decide), hr_7.1 4 (by decide)]; unfold rU; rw [show 9 * d + 6 + j = 9 * d + (6 + j) by omega]) ?_
          refine vp_callSl (va_Run.run (bc_runS (own := RM) (As := [.long (jmul (jturn (rU M d 3) (rU M d 4) (rU M d 5) (4 * i + j)).toInt64 (rU M d (6 + j)).toInt64)]) (rest := [.int (nI ((4 * i) + j)), .ref (ad 11)]) hx hb (hml.trans hl.1.symm) hown hts (kM_bound l (jmul (jturn (rU M d 3) (rU M d 4) (rU M d 5) (4 * i + j)).toInt64 (rU M d (6 + j)).toInt64)) w_444 w_442 w_443 w_4 hd_M_bound rfl ⟨rfl, rfl⟩ ⟨Nat.le_of_ble_eq_true rfl, Nat.le_of_ble_eq_true rfl⟩ (fun _ _ _ _ _ => trivial) (fun _ _ _ => trivial) rfl (Nat.le_of_ble_eq_true rfl) dM_makesLocal_61 ⟨Nat.le_of_ble_eq_true rfl, Nat.le_of_ble_eq_true rfl⟩)) (fun r_61 hr_61 => ?_)
          refine ln_last (L := 12) hx hb hE hI hP hS 11 3 (by decide) (rfl) rfl (by omega) (by decide) (((M1 11).1, vp_updL (M1 11).2 ((4 * i) + j) r_61)) (rfl) dM_makesLocal_64 (fun M_3 H locs eM_3 hP hS => ?_)
          refine lv_iinc (v := nI (j + 1)) (lv' := [(3, .int (nI (j + 1))), (2, .int (nI i)), (0, .ref (ad 0)), (1, .int (nI d))]) hx hb dM_makesLocal_65 hl (k := 1) rfl (nI_add j 1) (by decide) rfl (fun ls hl => ?_)
          refine lv_goto (tgt := 19) hx hb dM_makesLocal_68 (by decide) ?_
          exact ih.2 i (j + 1)  M_3 H locs ls (by omega) (by omega) (hinv.step eM_3 (by rw [hr_61]; exact (jlc_l (by omega)).symm) (by omega)) (by omega) hP hS (lv_sub hl [1, 0, 2, 3] rfl)
  exact (loop 100000).1 0  M_1 H locs ls (by omega) (lfill.zero) (by omega) hP hS (lv_sub hl [0, 1, 2] rfl)

theorem jpt_lt {par : Nat → Int32} {N d : Nat} (hp : pOk par N) (hN : N < 2147483648) (hd : d < N) {n : Nat} (h : ∀ i, i < n → 0 ≤ par (jpt par d i)) : ∀ i, i ≤ n → jpt par d i + i ≤ d := by
  intro i
  induction i with
  | zero => intro _; exact Nat.le_refl _
  | succ i ih =>
    intro hi
    have h1 := ih (by omega)
    rcases hp (jpt par d i) (by omega) with q | ⟨q, hq, e⟩
    · have := h i (by omega)
      simp only [Int32.lt_iff_toInt_lt, Int32.le_iff_toInt_le] at q this
      omega
    · rw [jpt_next e (by omega)]; omega

theorem jpt_le {par : Nat → Int32} {d n : Nat} (h : ∀ i, i < n → jpt par d (i + 1) < jpt par d i ∧ par (jpt par d i) = nI (jpt par d (i + 1))) : ∀ i, i ≤ n → jpt par d i ≤ d := by
  intro i
  induction i with
  | zero => intro _; exact Nat.le_refl _
  | succ i ih => intro hi; have := ih (by omega); have := (h i (by omega)).1; omega

set_option maxHeartbeats 4000000 in
set_option maxRecDepth 100000 in
theorem kM_makesWorld (l : Launch) (D : va_G) (cs : Nat → ClassId) (ad : Nat → Nat) (hI : bw_I ad 13) (M : Nat → mRow) (sz : Nat) (N d : Nat) (hN : N ≤ 48) (hd : d < N) (hp : pOk (M 1).1 N)  : Met l yM_makesWorld (wc yM_makesWorld cM_makesWorld 4 none) ({ frames := 5, cells := 0, slots := 0, locals := 113 } : Room) (va_Pc [.ref (ad 0), .int (nI d)] (mP D cs ad M sz)) (bQv D ad 13 (mc_cell cs ad) sz (fun M1 => (∀ q, (q < 5 ∨ q = 6) → M1 q = M q) ∧ lm (M1 7) (jworld (M 1).1 (fun n => jlocal (rU M n)) d))) 0 0 (bw_A ad 13 sz) := by
  refine Met.ofW (cc := cM_makesWorld) (maxL := 4) (ret := none) (by decide +kernel) rfl ?_
  intro p e s m args below meth c s₁ B hml hv
  obtain ⟨rfl, hsz, hP, hE⟩ := hv
  subst hsz
  have hx := B.exec
  have hb := B.bytes
  have hr := B.returns
  have hts : ∀ w9 ∈ ws_all, w9.before ([.ref (ad 0), .int (nI d)] : List Value).toArray s = true := fun w9 h => atoms_spec (ws := (wc yM_makesWorld cM_makesWorld 4 none)) B.pre w9 (List.mem_cons_of_mem _ h)
  have hown : s.vm.findClass RM = some m.cls := findClass_of_methodNamed B.named
  have hlocks := B.notSynchronized
  have hS : va_S (bw_A ad 13 s.heap.size) s.heap s.heap [] := va_S.rf
  have hl := lv_entry ([.ref (ad 0), .int (nI d)]) (n := 4) (Nat.le_of_ble_eq_true rfl)
  rw [lg_entry_eq]
  generalize (lg_sl ([.ref (ad 0), .int (nI d)]) ++ List.replicate (4 - (lg_sl ([.ref (ad 0), .int (nI d)])).length) Slot.unset).toArray = ls at hl ⊢
  have hl : lv_has ls 4 [(0, .ref (ad 0)), (1, .int (nI d))] := hl
  refine lv_iconst (v := nI 0) hx hb dM_makesWorld_0 (by decide) ?_
  refine lv_istore_n (lv' := [(2, .int (nI 0)), (0, .ref (ad 0)), (1, .int (nI d))]) hx hb dM_makesWorld_1 rfl hl (by decide) rfl (fun ls hl => ?_)
  refine lv_iload_n hx hb dM_makesWorld_2 rfl (lv_at hl 2 rfl) ?_
  refine lv_istore_n (lv' := [(3, .int (nI d)), (2, .int (nI 0)), (0, .ref (ad 0)), (1, .int (nI d))]) hx hb dM_makesWorld_3 rfl hl (by decide) rfl (fun ls hl => ?_)
  have loop : ∀ kf : Nat, (∀ (n : Nat)  (M1 : Nat → mRow) (H : Heap) (locs : List Loc) (ls : Array Slot), (jpt (M 1).1 d n + n ≤ d) → (∀ i, i < n → jpt (M 1).1 d (i + 1) < jpt (M 1).1 d i ∧ (M 1).1 (jpt (M 1).1 d i) = nI (jpt (M 1).1 d (i + 1))) → (wInv M M1 d n) → d + 1 - n < kf → va_P D cls3 (bw ad 13 (fun j => mc_cell cs ad j (M1 j))) H → va_S (bw_A ad 13 s.heap.size) s.heap H locs → lv_has ls 4 [(2, .int (nI n)), (0, .ref (ad 0)), (1, .int (nI d)), (3, .int (nI (jpt (M 1).1 d n)))] → W p l e (headSpec (wc yM_makesWorld cM_makesWorld 4 none) ({ frames := 5, cells := 0, slots := 0, locals := 113 } : Room)).room s m ([.ref (ad 0), .int (nI d)] : List Value).toArray below meth c H locs 0 0 (MQ below (bQv D ad 13 (mc_cell cs ad) s.heap.size (fun M1 => (∀ q, (q < 5 ∨ q = 6) → M1 q = M q) ∧ lm (M1 7) (jworld (M 1).1 (fun n => jlocal (rU M n)) d))) ([.ref (ad 0), .int (nI d)] : List Value).toArray s 0 0 (bw_A ad 13 s.heap.size)) (F0 m 4 ls [])) := by
    intro kf
    induction kf with
    | zero => exact by intros; omega
    | succ kf ih =>
      intro n  M1 H locs ls hn0 hway hinv hmu hP hS hl
      refine lv_iload_n hx hb dM_makesWorld_4 rfl (lv_at hl 3 rfl) ?_
      refine ln_if_lt (tgt := 28) hx hb dM_makesWorld_5 (by decide) (by omega) ?_
      have hk9 : jpt (M 1).1 d n < N := by omega
      refine lv_aload_n hx hb dM_makesWorld_8 rfl (lv_at hl 1 rfl) ?_
      refine bw_get (own := RM) (ci := 2) (C := RM) (T := TM) (N := 14) (v := .ref (ad 5)) hx hb hts inM hown hE hP 0 (by decide) rfl rfl 6 (by decide) w_322 rfl rfl dM_makesWorld_9 ?_
      refine lv_iload_n hx hb dM_makesWorld_12 rfl (lv_at hl 0 rfl) ?_
      refine lv_iload_n hx hb dM_makesWorld_13 rfl (lv_at hl 3 rfl) ?_
      refine ln_iast (L := 48) hx hb hE hI hP hS 5 0 (by decide) (rfl) rfl (by omega) (by decide) ((upd (M1 5).1 n (nI (jpt (M 1).1 d n)), (M1 5).2)) (rfl) dM_makesWorld_14 (fun M_1 H locs eM_1 hP hS => ?_)
      refine lv_iinc (v := nI (n + 1)) (lv' := [(2, .int (nI (n + 1))), (0, .ref (ad 0)), (1, .int (nI d)), (3, .int (nI (jpt (M 1).1 d n)))]) hx hb dM_makesWorld_15 hl (k := 0) rfl (nI_add n 1) (by decide) rfl (fun ls hl => ?_)
      refine lv_aload_n hx hb dM_makesWorld_18 rfl (lv_at hl 1 rfl) ?_
      refine bw_get (own := RM) (ci := 2) (C := RM) (T := TM) (N := 14) (v := .ref (ad 1)) hx hb hts inM hown hE hP 0 (by decide) rfl rfl 2 (by decide) w_318 rfl rfl dM_makesWorld_19 ?_
      refine lv_iload_n hx hb dM_makesWorld_22 rfl (lv_at hl 3 rfl) ?_
      refine ln_iald (L := 48) (g := (M_1 1).1) hx hb hE hP 1 0 (by decide) (rfl) rfl (by omega) (by decide) dM_makesWorld_23 ?_
      have h1r : (M_1 1).1 = (M 1).1 := by rw [eM_1, va_up_ne _ _ (by decide), hinv.1 1 (by decide)]
      have hw1 := hinv.step eM_1
      rcases hp (jpt (M 1).1 d n) hk9 with hneg | ⟨q, hq, hpq⟩
      · skip
        refine lv_istore_n (lv' := [(3, .int ((M_1 1).1 (jpt (M 1).1 d n))), (2, .int (nI (n + 1))), (0, .ref (ad 0)), (1, .int (nI d))]) hx hb dM_makesWorld_24 rfl hl (by decide) rfl (fun ls hl => ?_)
        refine lv_goto (tgt := 4) hx hb dM_makesWorld_25 (by decide) ?_
        refine lv_iload_n hx hb dM_makesWorld_4 rfl (lv_at hl 0 rfl) ?_
        refine lv_if_lt (tgt := 28) hx hb dM_makesWorld_5 (by decide) (fun c_5 => ?_) (fun c_5 => ?_)
        · skip
          refine lv_aload_n hx hb dM_makesWorld_28 rfl (lv_at hl 2 rfl) ?_
          refine lv_aload_n hx hb dM_makesWorld_29 rfl (lv_at hl 2 rfl) ?_
          refine bw_get (own := RM) (ci := 2) (C := RM) (T := TM) (N := 14) (v := .ref (ad 5)) hx hb hts inM hown hE hP 0 (by decide) rfl rfl 6 (by decide) w_322 rfl rfl dM_makesWorld_30 ?_
          refine lv_iload_n hx hb dM_makesWorld_33 rfl (lv_at hl 1 rfl) ?_
          refine lv_iconst (v := nI 1) hx hb dM_makesWorld_34 (by decide) ?_
          refine ln_isub hx hb dM_makesWorld_35 (by omega) ?_
          refine ln_iald (L := 48) (g := (M_1 5).1) hx hb hE hP 5 0 (by decide) (rfl) rfl (by omega) (by decide) dM_makesWorld_36 ?_
          refine ln_asi (nI (jpt (M 1).1 d n)) (by rw [show n + 1 - 1 = n by omega, hw1.2 n (by omega)]) ?_
          refine bc_callv (bc_runV (own := RM) (C := RM) (As := [.int (nI (jpt (M 1).1 d n))]) (rest := []) hx hb (hml.trans hl.1.symm) hown hts (kM_makesLocal l D cs ad hI M_1 H.size (jpt (M 1).1 d n) (by omega)) w_417 w_414 w_416 ws_sel_M_makesLocal w_4 ⟨rfl, hd_M_makesLocal⟩ rfl ⟨rfl, rfl⟩ ⟨Nat.le_of_ble_eq_true rfl, Nat.le_of_ble_eq_true rfl⟩ (fun _ _ _ _ h => h.calling) (bc_recv (r := (RM, TM, 14)) hE hP 0 (by decide) rfl rfl) (fun U hU hW => ⟨by rw [hU], by rw [hU]; exact hP, hE.warm hW⟩) rfl (Nat.le_of_ble_eq_true rfl) dM_makesWorld_37 ⟨Nat.le_of_ble_eq_true rfl, Nat.le_of_ble_eq_true rfl⟩) hS (fun M_2 H locs hr_37 hP hS => ?_)
          have hA9 : ∀ q, (q < 5 ∨ q = 6 ∨ 12 ≤ q) → M_2 q = M q := fun q hq => by rw [hr_37.1 q (by omega), hw1.1 q (by omega)]
          refine lv_aload_n hx hb dM_makesWorld_40 rfl (lv_at hl 2 rfl) ?_
          refine bw_get (own := RM) (ci := 2) (C := RM) (T := TM) (N := 14) (v := .ref (ad 11)) hx hb hts inM hown hE hP 0 (by decide) rfl rfl 12 (by decide) w_328 rfl rfl dM_makesWorld_41 ?_
          refine lv_aload_n hx hb dM_makesWorld_44 rfl (lv_at hl 2 rfl) ?_
          refine bw_get (own := RM) (ci := 2) (C := RM) (T := TM) (N := 14) (v := .ref (ad 7)) hx hb hts inM hown hE hP 0 (by decide) rfl rfl 8 (by decide) w_324 rfl rfl dM_makesWorld_45 ?_
          refine bc_callv (bc_runS (own := RM) (As := [.ref (ad 11), .ref (ad 7)]) (rest := []) hx hb (hml.trans hl.1.symm) hown hts (kM_copy l D cs ad hI M_2 H.size 11 7 (by decide) (by decide) (fun _ => rfl) (fun _ => rfl) (by decide)) w_449 w_447 w_448 w_4 hd_M_copy rfl ⟨rfl, rfl⟩ ⟨Nat.le_of_ble_eq_true rfl, Nat.le_of_ble_eq_true rfl⟩ (fun _ _ _ _ h => h.calling) (fun U hU hW => ⟨by rw [hU], by rw [hU]; exact hP, hE.warm hW⟩) rfl (Nat.le_of_ble_eq_true rfl) dM_makesWorld_48 ⟨Nat.le_of_ble_eq_true rfl, Nat.le_of_ble_eq_true rfl⟩) hS (fun M_3 H locs hr_48 hP hS => ?_)
          have hrU : ∀ n, rU M_1 n = rU M n := fun n => by unfold rU; rw [hw1.1 4 (by decide)]
          have hg0 : gInv M M_3 d n n := ⟨fun q hq => by rw [hr_48.1 q (by omega)]; exact hA9 q (by omega), fun i hi => by rw [hr_48.1 5 (by decide), hr_37.1 5 (by decide)]; exact hw1.2 i hi, by rw [jworld_root hneg, ← hrU]; exact hr_48.lm hr_37.2⟩
          refine lv_iload_n hx hb dM_makesWorld_51 rfl (lv_at hl 1 rfl) ?_
          refine lv_iconst (v := nI 2) hx hb dM_makesWorld_52 (by decide) ?_
          refine lv_isub hx hb dM_makesWorld_53 ?_
          rcases Nat.eq_zero_or_pos n with hz0 | hz0
          · skip
            refine ln_asi (-1) (by rw [hz0]; decide) ?_
            refine lv_istore_n (lv' := [(3, .int (-1)), (2, .int (nI (n + 1))), (0, .ref (ad 0)), (1, .int (nI d))]) hx hb dM_makesWorld_54 rfl hl (by decide) rfl (fun ls hl => ?_)
            refine lv_iload_n hx hb dM_makesWorld_55 rfl (lv_at hl 0 rfl) ?_
            refine lv_if_lt (tgt := 112) hx hb dM_makesWorld_56 (by decide) (fun c_56 => ?_) (fun c_56 => ?_)
            · skip
              exact W.vret hx hb hr (fun t ht hW => ⟨⟨M_3, rfl, ⟨hg0.1, by rw [hz0] at hg0; exact hg0.2.2⟩, by show va_P _ _ _ t.heap; rw [ht]; exact hP⟩, hS.F ht⟩) hS.2.2 dM_makesWorld_112
            · skip
              exact absurd (by decide) c_56
          · skip
            refine ln_asi (nI (n - 1)) (by rw [pk_sub (by omega)]; exact congrArg nI (by omega)) ?_
            refine lv_istore_n (lv' := [(3, .int (nI (n - 1))), (2, .int (nI (n + 1))), (0, .ref (ad 0)), (1, .int (nI d))]) hx hb dM_makesWorld_54 rfl hl (by decide) rfl (fun ls hl => ?_)
            have hdec : ∀ i, i < n → jpt (M 1).1 d (i + 1) < jpt (M 1).1 d i ∧ (M 1).1 (jpt (M 1).1 d i) = nI (jpt (M 1).1 d (i + 1)) := hway
            have hle : ∀ i, i ≤ n → jpt (M 1).1 d i ≤ d := fun i hi => by have := jpt_le hway i hi; omega
            have loop2 : ∀ kf : Nat, (∀ (k : Nat)  (M1 : Nat → mRow) (H : Heap) (locs : List Loc) (ls : Array Slot), (k < n) → (gInv M M1 d n (k + 1)) → k < kf → va_P D cls3 (bw ad 13 (fun j => mc_cell cs ad j (M1 j))) H → va_S (bw_A ad 13 s.heap.size) s.heap H locs → lv_has ls 4 [(3, .int (nI k)), (0, .ref (ad 0)), (1, .int (nI d)), (2, .int (nI (n + 1)))] → W p l e (headSpec (wc yM_makesWorld cM_makesWorld 4 none) ({ frames := 5, cells := 0, slots := 0, locals := 113 } : Room)).room s m ([.ref (ad 0), .int (nI d)] : List Value).toArray below meth c H locs 0 0 (MQ below (bQv D ad 13 (mc_cell cs ad) s.heap.size (fun M1 => (∀ q, (q < 5 ∨ q = 6) → M1 q = M q) ∧ lm (M1 7) (jworld (M 1).1 (fun n => jlocal (rU M n)) d))) ([.ref (ad 0), .int (nI d)] : List Value).toArray s 0 0 (bw_A ad 13 s.heap.size)) (F0 m 55 ls [])) := by
              intro kf
              induction kf with
              | zero => exact by intros; omega
              | succ kf ih =>
                intro k  M1 H locs ls hk hinv2 hmu hP hS hl
                refine lv_iload_n hx hb dM_makesWorld_55 rfl (lv_at hl 0 rfl) ?_
                refine ln_if_lt (tgt := 112) hx hb dM_makesWorld_56 (by decide) (by omega) ?_
                have hkd := hle k (by omega)
                refine lv_aload_n hx hb dM_makesWorld_59 rfl (lv_at hl 1 rfl) ?_
                refine bw_get (own := RM) (ci := 2) (C := RM) (T := TM) (N := 14) (v := .ref (ad 7)) hx hb hts inM hown hE hP 0 (by decide) rfl rfl 8 (by decide) w_324 rfl rfl dM_makesWorld_60 ?_
                refine lv_aload_n hx hb dM_makesWorld_63 rfl (lv_at hl 1 rfl) ?_
                refine bw_get (own := RM) (ci := 2) (C := RM) (T := TM) (N := 14) (v := .ref (ad 12)) hx hb hts inM hown hE hP 0 (by decide) rfl rfl 13 (by decide) w_329 rfl rfl dM_makesWorld_64 ?_
                refine bc_callv (bc_runS (own := RM) (As := [.ref (ad 7), .ref (ad 12)]) (rest := []) hx hb (hml.trans hl.1.symm) hown hts (kM_copy l D cs ad hI M1 H.size 7 12 (by decide) (by decide) (fun _ => rfl) (fun _ => rfl) (by decide)) w_449 w_447 w_448 w_4 hd_M_copy rfl ⟨rfl, rfl⟩ ⟨Nat.le_of_ble_eq_true rfl, Nat.le_of_ble_eq_true rfl⟩ (fun _ _ _ _ h => h.calling) (fun U hU hW => ⟨by rw [hU], by rw [hU]; exact hP, hE.warm hW⟩) rfl (Nat.le_of_ble_eq_true rfl) dM_makesWorld_67 ⟨Nat.le_of_ble_eq_true rfl, Nat.le_of_ble_eq_true rfl⟩) hS (fun M_4 H locs hr_67 hP hS => ?_)
                refine lv_aload_n hx hb dM_makesWorld_70 rfl (lv_at hl 1 rfl) ?_
                refine lv_aload_n hx hb dM_makesWorld_71 rfl (lv_at hl 1 rfl) ?_
                refine bw_get (own := RM) (ci := 2) (C := RM) (T := TM) (N := 14) (v := .ref (ad 5)) hx hb hts inM hown hE hP 0 (by decide) rfl rfl 6 (by decide) w_322 rfl rfl dM_makesWorld_72 ?_
                refine lv_iload_n hx hb dM_makesWorld_75 rfl (lv_at hl 0 rfl) ?_
                refine ln_iald (L := 48) (g := (M_4 5).1) hx hb hE hP 5 0 (by decide) (rfl) rfl (by omega) (by decide) dM_makesWorld_76 ?_
                refine ln_asi (nI (jpt (M 1).1 d k)) (by rw [hr_67.1 5 (by decide)]; exact hinv2.2.1 k (by omega)) ?_
                refine bc_callv (bc_runV (own := RM) (C := RM) (As := [.int (nI (jpt (M 1).1 d k))]) (rest := []) hx hb (hml.trans hl.1.symm) hown hts (kM_makesLocal l D cs ad hI M_4 H.size (jpt (M 1).1 d k) (by omega)) w_417 w_414 w_416 ws_sel_M_makesLocal w_4 ⟨rfl, hd_M_makesLocal⟩ rfl ⟨rfl, rfl⟩ ⟨Nat.le_of_ble_eq_true rfl, Nat.le_of_ble_eq_true rfl⟩ (fun _ _ _ _ h => h.calling) (bc_recv (r := (RM, TM, 14)) hE hP 0 (by decide) rfl rfl) (fun U hU hW => ⟨by rw [hU], by rw [hU]; exact hP, hE.warm hW⟩) rfl (Nat.le_of_ble_eq_true rfl) dM_makesWorld_77 ⟨Nat.le_of_ble_eq_true rfl, Nat.le_of_ble_eq_true rfl⟩) hS (fun M_5 H locs hr_77 hP hS => ?_)
                have h4k : M_4 4 = M 4 := by rw [hr_67.1 4 (by decide)]; exact hinv2.1 4 (by decide)
                have hrk : ∀ n, rU M_4 n = rU M n := fun n => by unfold rU; rw [h4k]
                refine lv_aload_n hx hb dM_makesWorld_80 rfl (lv_at hl 1 rfl) ?_
                refine bw_get (own := RM) (ci := 2) (C := RM) (T := TM) (N := 14) (v := .ref (ad 12)) hx hb hts inM hown hE hP 0 (by decide) rfl rfl 13 (by decide) w_329 rfl rfl dM_makesWorld_81 ?_
                refine lv_aload_n hx hb dM_makesWorld_84 rfl (lv_at hl 1 rfl) ?_
                refine bw_get (own := RM) (ci := 2) (C := RM) (T := TM) (N := 14) (v := .ref (ad 8)) hx hb hts inM hown hE hP 0 (by decide) rfl rfl 9 (by decide) w_325 rfl rfl dM_makesWorld_85 ?_
                refine bc_callv (bc_runS (own := RM) (As := [.ref (ad 12), .ref (ad 8)]) (rest := []) hx hb (hml.trans hl.1.symm) hown hts (kM_copy l D cs ad hI M_5 H.size 12 8 (by decide) (by decide) (fun _ => rfl) (fun _ => rfl) (by decide)) w_449 w_447 w_448 w_4 hd_M_copy rfl ⟨rfl, rfl⟩ ⟨Nat.le_of_ble_eq_true rfl, Nat.le_of_ble_eq_true rfl⟩ (fun _ _ _ _ h => h.calling) (fun U hU hW => ⟨by rw [hU], by rw [hU]; exact hP, hE.warm hW⟩) rfl (Nat.le_of_ble_eq_true rfl) dM_makesWorld_88 ⟨Nat.le_of_ble_eq_true rfl, Nat.le_of_ble_eq_true rfl⟩) hS (fun M_6 H locs hr_88 hP hS => ?_)
                refine lv_aload_n hx hb dM_makesWorld_91 rfl (lv_at hl 1 rfl) ?_
                refine bw_get (own := RM) (ci := 2) (C := RM) (T := TM) (N := 14) (v := .ref (ad 11)) hx hb hts inM hown hE hP 0 (by decide) rfl rfl 12 (by decide) w_328 rfl rfl dM_makesWorld_92 ?_
                refine lv_aload_n hx hb dM_makesWorld_95 rfl (lv_at hl 1 rfl) ?_
                refine bw_get (own := RM) (ci := 2) (C := RM) (T := TM) (N := 14) (v := .ref (ad 9)) hx hb hts inM hown hE hP 0 (by decide) rfl rfl 10 (by decide) w_326 rfl rfl dM_makesWorld_96 ?_
                refine bc_callv (bc_runS (own := RM) (As := [.ref (ad 11), .ref (ad 9)]) (rest := []) hx hb (hml.trans hl.1.symm) hown hts (kM_copy l D cs ad hI M_6 H.size 11 9 (by decide) (by decide) (fun _ => rfl) (fun _ => rfl) (by decide)) w_449 w_447 w_448 w_4 hd_M_copy rfl ⟨rfl, rfl⟩ ⟨Nat.le_of_ble_eq_true rfl, Nat.le_of_ble_eq_true rfl⟩ (fun _ _ _ _ h => h.calling) (fun U hU hW => ⟨by rw [hU], by rw [hU]; exact hP, hE.warm hW⟩) rfl (Nat.le_of_ble_eq_true rfl) dM_makesWorld_99 ⟨Nat.le_of_ble_eq_true rfl, Nat.le_of_ble_eq_true rfl⟩) hS (fun M_7 H locs hr_99 hP hS => ?_)
                refine lv_aload_n hx hb dM_makesWorld_102 rfl (lv_at hl 1 rfl) ?_
                refine bc_callv (bc_runV (own := RM) (C := RM) (As := []) (rest := []) hx hb (hml.trans hl.1.symm) hown hts (kM_times l D cs ad hI M_7 H.size (jworld (M 1).1 (fun n => jlocal (rU M n)) (jpt (M 1).1 d (k + 1))) (jlocal (rU M (jpt (M 1).1 d k))) (by rw [hr_99.1 8 (by decide)]; exact hr_88.lm (by rw [hr_77.1 12 (by decide)]; exact hr_67.lm hinv2.2.2)) (by rw [← hrk]; exact hr_99.lm (by rw [hr_88.1 11 (by decide)]; exact hr_77.2))) w_438 w_435 w_437 ws_sel_M_times w_4 ⟨rfl, hd_M_times⟩ rfl ⟨rfl, rfl⟩ ⟨Nat.le_of_ble_eq_true rfl, Nat.le_of_ble_eq_true rfl⟩ (fun _ _ _ _ h => h.calling) (bc_recv (r := (RM, TM, 14)) hE hP 0 (by decide) rfl rfl) (fun U hU hW => ⟨by rw [hU], by rw [hU]; exact hP, hE.warm hW⟩) rfl (Nat.le_of_ble_eq_true rfl) dM_makesWorld_103 ⟨Nat.le_of_ble_eq_true rfl, Nat.le_of_ble_eq_true rfl⟩) hS (fun M_8 H locs hr_103 hP hS => ?_)
                have hF : ∀ q, (q < 7 ∧ (q < 5 ∨ q = 6 ∨ q = 5)) → M_8 q = M1 q := fun q hq => by rw [hr_103.1 q (by omega), hr_99.1 q (by omega), hr_88.1 q (by omega), hr_77.1 q (by omega), hr_67.1 q (by omega)]
                have hg1 : gInv M M_8 d n k := ⟨fun q hq => by rw [hF q (by omega)]; exact hinv2.1 q hq, fun i hi => by rw [hF 5 (by omega)]; exact hinv2.2.1 i hi, by rw [jworld_at hp (by omega) (show jpt (M 1).1 d k < N by omega) (hdec k hk).1 (hdec k hk).2]; exact hr_103.2⟩
                rcases Nat.eq_zero_or_pos k with hz1 | hz1
                · skip
                  refine lv_iinc (v := (nI k) + (-1)) (lv' := [(3, .int ((nI k) + (-1))), (0, .ref (ad 0)), (1, .int (nI d)), (2, .int (nI (n + 1)))]) hx hb dM_makesWorld_106 hl (k := 0) rfl (rfl) (by decide) rfl (fun ls hl => ?_)
                  refine lv_goto (tgt := 55) hx hb dM_makesWorld_109 (by decide) ?_
                  refine lv_iload_n hx hb dM_makesWorld_55 rfl (lv_at hl 0 rfl) ?_
                  refine lv_if_lt (tgt := 112) hx hb dM_makesWorld_56 (by decide) (fun c_56 => ?_) (fun c_56 => ?_)
                  · skip
                    exact W.vret hx hb hr (fun t ht hW => ⟨⟨M_8, rfl, ⟨hg1.1, by rw [hz1] at hg1; exact hg1.2.2⟩, by show va_P _ _ _ t.heap; rw [ht]; exact hP⟩, hS.F ht⟩) hS.2.2 dM_makesWorld_112
                  · skip
                    exact absurd (by rw [hz1]; decide) c_56
                · skip
                  refine lv_iinc (v := nI (k - 1)) (lv' := [(3, .int (nI (k - 1))), (0, .ref (ad 0)), (1, .int (nI d)), (2, .int (nI (n + 1)))]) hx hb dM_makesWorld_106 hl (k := 0) rfl (sb_m1 hz1) (by decide) rfl (fun ls hl => ?_)
                  refine lv_goto (tgt := 55) hx hb dM_makesWorld_109 (by decide) ?_
                  exact ih (k - 1)  M_8 H locs ls (by omega) (by rw [show k - 1 + 1 = k by omega]; exact hg1) (by omega) hP hS (lv_sub hl [0, 1, 2, 3] rfl)
            exact (loop2 100000) (n - 1)  M_3 H locs ls (by omega) (by rw [show n - 1 + 1 = n by omega]; exact hg0) (by omega) hP hS (lv_sub hl [0, 2, 3, 1] rfl)
        · skip
          exact absurd (by rw [h1r]; exact hneg) c_5
      · skip
        have hq9 : jpt (M 1).1 d (n + 1) = q := jpt_next hpq (by omega)
        refine ln_asi (nI (jpt (M 1).1 d (n + 1))) (by rw [h1r, hpq, hq9]) ?_
        refine lv_istore_n (lv' := [(3, .int (nI (jpt (M 1).1 d (n + 1)))), (2, .int (nI (n + 1))), (0, .ref (ad 0)), (1, .int (nI d))]) hx hb dM_makesWorld_24 rfl hl (by decide) rfl (fun ls hl => ?_)
        refine lv_goto (tgt := 4) hx hb dM_makesWorld_25 (by decide) ?_
        exact ih (n + 1)  M_1 H locs ls (by omega) (fun i hi => by rcases (show i < n ∨ i = n by omega) with z | z; exact hway i z; rw [z, hq9]; exact ⟨hq, hpq⟩) (hw1) (by omega) hP hS (lv_sub hl [1, 2, 3, 0] rfl)
  exact (loop 100000) 0  M s.heap [] ls (Nat.le_refl _) (fun i hi => absurd hi (Nat.not_lt_zero _)) (⟨fun _ _ => rfl, fun i hi => by omega⟩) (by omega) hP hS (lv_sub hl [1, 2, 3, 0] rfl)
