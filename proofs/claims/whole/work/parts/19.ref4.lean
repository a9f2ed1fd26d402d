/-! THE REFERENCE: MODEL, who is seen, the order, the answers -/
theorem jal_succ (T u : Nat → Int32) (i j : Nat) : jal T u i (j + 1) = jal T u i j + jmul (T (4 * j + i)).toInt64 (u (0 + j)).toInt64 := rfl
theorem jvc_l {T u : Nat → Int32} {i : Nat} : (jvc T u i 3).toInt64 = jcl (-(jal T u i 3)) := by
  unfold jvc
  rw [if_pos rfl, jcl_back]
/-- MODEL of a node, as the reference's cells have it -/
def rM (M : Nat → mRow) (d : Nat) : Nat → Int32 := jmat (jview (rE M)) (jworld (M 1).1 (fun n => jlocal (rU M n)) d)
def rbef (kd : Nat → Int32) (dp : Nat → Int64) (a b : Nat) : Prop := if kd a = kd b then (if dp a = dp b then a < b else if kd a = nI 1 then dp a < dp b else dp b < dp a) else kd a < kd b
theorem rbef_key {kd : Nat → Int32} {dp : Nat → Int64} {dq : Nat → Int32} {a b : Nat} (ha : dp a = (dq a).toInt64) (hb : dp b = (dq b).toInt64) : rbef kd dp a b ↔ ltK (ky1 kd) (ky2 kd dq) a b := by
  unfold rbef ltK ky1 ky2
  rw [ha, hb]
  have e1 : (dq a).toInt64.toInt = (dq a).toInt := Int32.toInt_toInt64 _
  have e2 : (dq b).toInt64.toInt = (dq b).toInt := Int32.toInt_toInt64 _
  by_cases c : kd a = kd b
  · rw [if_pos c, c]
    by_cases c2 : (dq a).toInt64 = (dq b).toInt64
    · rw [if_pos c2]
      have e3 : (dq a).toInt = (dq b).toInt := by rw [← e1, ← e2, c2]
      rw [e3]
      split <;> omega
    · rw [if_neg c2]
      have e3 : (dq a).toInt ≠ (dq b).toInt := fun q => c2 (Int64.toInt_inj.mp (by rw [e1, e2, q]))
      split <;> (rw [Int64.lt_iff_toInt_lt, e1, e2]; omega)
  · rw [if_neg c, Int32.lt_iff_toInt_lt]
    have e3 : (kd a).toInt ≠ (kd b).toInt := fun q => c (Int32.toInt_inj.mp q)
    omega
def bfB (A : Ab) (x d : Nat) : Bool := decide (ky1 (aK A) x < ky1 (aK A) d) || (decide (ky1 (aK A) x = ky1 (aK A) d) && (decide (ky2 (aK A) (adep A) x < ky2 (aK A) (adep A) d) || (decide (ky2 (aK A) (adep A) x = ky2 (aK A) (adep A) d) && decide (x < d))))
theorem bfB_lt (A : Ab) (x d : Nat) : bfB A x d = true ↔ ltK (ky1 (aK A)) (ky2 (aK A) (adep A)) x d := by
  unfold bfB ltK
  simp only [Bool.or_eq_true, Bool.and_eq_true, decide_eq_true_eq]
/-- how many that are seen come before d -/
def cbB (A : Ab) (d e : Nat) : Nat := cntB (fun x => sawB A x && bfB A x d) e
def fnd (A : Ab) (k : Int32) : Nat → Int32
  | 0 => (-1)
  | d + 1 => if sawB A d = true ∧ nI (cbB A d (aN A)) = k then nI d else fnd A k d
theorem ltK_congr {k1 k2 k1' k2' : Nat → Int} {a b : Nat} (h1 : k1' a = k1 a) (h2 : k1' b = k1 b) (h3 : k2' a = k2 a) (h4 : k2' b = k2 b) : ltK k1' k2' a b ↔ ltK k1 k2 a b := by
  unfold ltK; rw [h1, h2, h3, h4]
theorem Ref.saw {A : Ab} {R : Nat → mRow} (h : Ref A R) (hA : aOk A) {n : Nat} (hn : n < aN A) : (0 < (R 2).1 n ∧ jopn (R 1).1 (R 3).1 n = true) ↔ sawB A n = true := by
  have hN := hA.1
  rw [jopn_congr hA.2.1 (by omega) (fun k hk => (h.2.1 k hk).1) (fun k hk => (h.2.1 k hk).2.2.1) n hn, (h.2.1 n hn).2.1]
  unfold sawB
  rcases hA.2.2 n hn with q | q | q <;> rw [q]
  · simp
  · have : (0 : Int32) < nI 1 := by decide
    have h2 : (nI 1 == (0 : Int32)) = false := by decide
    simp [this, h2]
  · have : (0 : Int32) < nI 2 := by decide
    have h2 : (nI 2 == (0 : Int32)) = false := by decide
    simp [this, h2]
theorem Ref.pok {A : Ab} {R : Nat → mRow} (h : Ref A R) (hA : aOk A) : pOk (R 1).1 (aN A) := fun n hn => by rw [(h.2.1 n hn).1]; exact hA.2.1 n hn
theorem Ref.world {A : Ab} {R : Nat → mRow} (h : Ref A R) (hA : aOk A) {n : Nat} (hn : n < aN A) : ∀ t, t < 12 → jworld (R 1).1 (fun n => jlocal (rU R n)) n t = wA A n t := by
  have hN := hA.1
  exact jworld_congr hA.2.1 (by omega) (fun k hk => (h.2.1 k hk).1) (fun k hk t ht => jlocal_congr (h.2.1 k hk).2.2.2 ht) n hn
theorem Ref.model {A : Ab} {R : Nat → mRow} (h : Ref A R) (hA : aOk A) {n : Nat} (hn : n < aN A) {i j : Nat} (hi : i < 3) (hj : j < 4) : rM R n (4 * i + j) = mA A n i j := by
  unfold rM jmat mA
  rw [show (4 * i + j) / 4 = i by omega, show (4 * i + j) % 4 = j by omega]
  exact jprod_congr (fun t ht => jview_congr h.2.2 ht) (h.world hA hn) hi hj
/-- the order's first part: depths below d are there -/
def rO (A : Ab) (R : Nat → mRow) (d : Nat) : Prop := Ref A R ∧ ∀ n, n < d → (R 6).2 n = (adep A n).toInt64
theorem rO.step {A : Ab} {R R1 R2 : Nat → mRow} {d : Nat} (h : rO A R d) (hA : aOk A) (hd : d < aN A) (h1 : (∀ q, (q < 5 ∨ q = 6) → R1 q = R q) ∧ lm (R1 7) (rM R d)) (e : R2 = va_up R1 6 ((R1 6).1, vp_updL (R1 6).2 d ((R1 7).2 11))) : rO A R2 (d + 1) := by
  subst e
  refine ⟨h.1.keep (fun q h0 h5 => by rw [va_up_ne _ _ (by omega), h1.1 q (by omega)]) (by rw [va_up_ne _ _ (by decide), h1.1 0 (by decide)]), fun n hn => ?_⟩
  rw [va_up_self]
  by_cases c : n = d
  · subst c
    rw [l_us, h1.2 11 (by decide)]
    exact congrArg _ (h.1.model hA hd (i := 2) (j := 3) (by decide) (by decide))
  · rw [l_un c, h1.1 6 (by decide)]; exact h.2 n (by omega)

set_option maxHeartbeats 4000000 in
set_option maxRecDepth 100000 in
theorem kM_makesModel (l : Launch) (D : va_G) (cs : Nat → ClassId) (ad : Nat → Nat) (hI : bw_I ad 13) (M : Nat → mRow) (sz : Nat) (N d : Nat) (hN : N ≤ 48) (hd : d < N) (hp : pOk (M 1).1 N)  : Met l yM_makesModel (wc yM_makesModel cM_makesModel 6 none) ({ frames := 6, cells := 0, slots := 0, locals := 136 } : Room) (va_Pc [.ref (ad 0), .int (nI d)] (mP D cs ad M sz)) (bQv D ad 13 (mc_cell cs ad) sz (fun M1 => (∀ q, (q < 5 ∨ q = 6) → M1 q = M q) ∧ lm (M1 7) (rM M d))) 0 0 (bw_A ad 13 sz) := by
  refine Met.ofW (cc := cM_makesModel) (maxL := 6) (ret := none) (by decide +kernel) rfl ?_
  intro p e s m args below meth c s₁ B hml hv
  obtain ⟨rfl, hsz, hP, hE⟩ := hv
  subst hsz
  have hx := B.exec
  have hb := B.bytes
  have hr := B.returns
  have hts : ∀ w9 ∈ ws_all, w9.before ([.ref (ad 0), .int (nI d)] : List Value).toArray s = true := fun w9 h => atoms_spec (ws := (wc yM_makesModel cM_makesModel 6 none)) B.pre w9 (List.mem_cons_of_mem _ h)
  have hown : s.vm.findClass RM = some m.cls := findClass_of_methodNamed B.named
  have hlocks := B.notSynchronized
  have hS : va_S (bw_A ad 13 s.heap.size) s.heap s.heap [] := va_S.rf
  have hl := lv_entry ([.ref (ad 0), .int (nI d)]) (n := 6) (Nat.le_of_ble_eq_true rfl)
  rw [lg_entry_eq]
  generalize (lg_sl ([.ref (ad 0), .int (nI d)]) ++ List.replicate (6 - (lg_sl ([.ref (ad 0), .int (nI d)])).length) Slot.unset).toArray = ls at hl ⊢
  have hl : lv_has ls 6 [(0, .ref (ad 0)), (1, .int (nI d))] := hl
  refine lv_aload_n hx hb dM_makesModel_0 rfl (lv_at hl 0 rfl) ?_
  refine lv_iload_n hx hb dM_makesModel_1 rfl (lv_at hl 1 rfl) ?_
  refine bc_callv (bc_runV (own := RM) (C := RM) (As := [.int (nI d)]) (rest := []) hx hb (hml.trans hl.1.symm) hown hts (kM_makesWorld l D cs ad hI M s.heap.size N d hN hd hp) w_413 w_410 w_412 ws_sel_M_makesWorld w_4 ⟨rfl, hd_M_makesWorld⟩ rfl ⟨rfl, rfl⟩ ⟨Nat.le_of_ble_eq_true rfl, Nat.le_of_ble_eq_true rfl⟩ (fun _ _ _ _ h => h.calling) (bc_recv (r := (RM, TM, 14)) hE hP 0 (by decide) rfl rfl) (fun U hU hW => ⟨by rw [hU], by rw [hU]; exact hP, hE.warm hW⟩) rfl (Nat.le_of_ble_eq_true rfl) dM_makesModel_2 ⟨Nat.le_of_ble_eq_true rfl, Nat.le_of_ble_eq_true rfl⟩) hS (fun M_1 H locs hr_2 hP hS => ?_)
  refine lv_aload_n hx hb dM_makesModel_5 rfl (lv_at hl 0 rfl) ?_
  refine bw_get (own := RM) (ci := 2) (C := RM) (T := TM) (N := 14) (v := .ref (ad 7)) hx hb hts inM hown hE hP 0 (by decide) rfl rfl 8 (by decide) w_324 rfl rfl dM_makesModel_6 ?_
  refine lv_aload_n hx hb dM_makesModel_9 rfl (lv_at hl 0 rfl) ?_
  refine bw_get (own := RM) (ci := 2) (C := RM) (T := TM) (N := 14) (v := .ref (ad 12)) hx hb hts inM hown hE hP 0 (by decide) rfl rfl 13 (by decide) w_329 rfl rfl dM_makesModel_10 ?_
  refine bc_callv (bc_runS (own := RM) (As := [.ref (ad 7), .ref (ad 12)]) (rest := []) hx hb (hml.trans hl.1.symm) hown hts (kM_copy l D cs ad hI M_1 H.size 7 12 (by decide) (by decide) (fun _ => rfl) (fun _ => rfl) (by decide)) w_449 w_447 w_448 w_4 hd_M_copy rfl ⟨rfl, rfl⟩ ⟨Nat.le_of_ble_eq_true rfl, Nat.le_of_ble_eq_true rfl⟩ (fun _ _ _ _ h => h.calling) (fun U hU hW => ⟨by rw [hU], by rw [hU]; exact hP, hE.warm hW⟩) rfl (Nat.le_of_ble_eq_true rfl) dM_makesModel_13 ⟨Nat.le_of_ble_eq_true rfl, Nat.le_of_ble_eq_true rfl⟩) hS (fun M_2 H locs hr_13 hP hS => ?_)
  refine lv_aload_n hx hb dM_makesModel_16 rfl (lv_at hl 0 rfl) ?_
  refine lv_sipush (v := nI 435) hx hb dM_makesModel_17 (by decide) ?_
  refine bc_callv (bc_runV (own := RM) (C := RM) (As := [.int (nI 435)]) (rest := []) hx hb (hml.trans hl.1.symm) hown hts (kM_turn l D cs ad hI M_2 H.size 435 (by decide)) w_421 w_418 w_420 ws_sel_M_turn w_4 ⟨rfl, hd_M_turn⟩ rfl ⟨rfl, rfl⟩ ⟨Nat.le_of_ble_eq_true rfl, Nat.le_of_ble_eq_true rfl⟩ (fun _ _ _ _ h => h.calling) (bc_recv (r := (RM, TM, 14)) hE hP 0 (by decide) rfl rfl) (fun U hU hW => ⟨by rw [hU], by rw [hU]; exact hP, hE.warm hW⟩) rfl (Nat.le_of_ble_eq_true rfl) dM_makesModel_20 ⟨Nat.le_of_ble_eq_true rfl, Nat.le_of_ble_eq_true rfl⟩) hS (fun M_3 H locs hr_20 hP hS => ?_)
  have h4 : (M_3 4).1 = (M 4).1 := by rw [hr_20.1 4 (by decide), hr_13.1 4 (by decide), hr_2.1 4 (by decide)]
  have h42 : (M_2 4).1 = (M 4).1 := by rw [hr_13.1 4 (by decide), hr_2.1 4 (by decide)]
  refine lv_iconst (v := nI 0) hx hb dM_makesModel_23 (by decide) ?_
  refine lv_istore_n (lv' := [(2, .int (nI 0)), (0, .ref (ad 0)), (1, .int (nI d))]) hx hb dM_makesModel_24 rfl hl (by decide) rfl (fun ls hl => ?_)
  have loop : ∀ kf : Nat, (∀ (i : Nat)  (M1 : Nat → mRow) (H : Heap) (locs : List Loc) (ls : Array Slot), (i ≤ 3) → (lfill M_3 M1 8 (4 * i) (jvc (jturn (rE M 3) (rE M 4) (rE M 5)) (rE M))) → 6 * (3 - i) < kf → va_P D cls3 (bw ad 13 (fun j => mc_cell cs ad j (M1 j))) H → va_S (bw_A ad 13 s.heap.size) s.heap H locs → lv_has ls 6 [(2, .int (nI i)), (0, .ref (ad 0)), (1, .int (nI d))] → W p l e (headSpec (wc yM_makesModel cM_makesModel 6 none) ({ frames := 6, cells := 0, slots := 0, locals := 136 } : Room)).room s m ([.ref (ad 0), .int (nI d)] : List Value).toArray below meth c H locs 0 0 (MQ below (bQv D ad 13 (mc_cell cs ad) s.heap.size (fun M1 => (∀ q, (q < 5 ∨ q = 6) → M1 q = M q) ∧ lm (M1 7) (rM M d))) ([.ref (ad 0), .int (nI d)] : List Value).toArray s 0 0 (bw_A ad 13 s.heap.size)) (F0 m 25 ls [])) ∧ (∀ (i : Nat) (j : Nat)  (M1 : Nat → mRow) (H : Heap) (locs : List Loc) (ls : Array Slot), (i < 3) → (j ≤ 3) → (lfill M_3 M1 8 (4 * i + j) (jvc (jturn (rE M 3) (rE M 4) (rE M 5)) (rE M))) → 6 * (3 - i) - 1 - j < kf → va_P D cls3 (bw ad 13 (fun j => mc_cell cs ad j (M1 j))) H → va_S (bw_A ad 13 s.heap.size) s.heap H locs → lv_has ls 6 [(2, .int (nI i)), (5, .int (nI j)), (0, .ref (ad 0)), (1, .int (nI d)), (3, .long (jal (jturn (rE M 3) (rE M 4) (rE M 5)) (rE M) i j))] → W p l e (headSpec (wc yM_makesModel cM_makesModel 6 none) ({ frames := 6, cells := 0, slots := 0, locals := 136 } : Room)).room s m ([.ref (ad 0), .int (nI d)] : List Value).toArray below meth c H locs 0 0 (MQ below (bQv D ad 13 (mc_cell cs ad) s.heap.size (fun M1 => (∀ q, (q < 5 ∨ q = 6) → M1 q = M q) ∧ lm (M1 7) (rM M d))) ([.ref (ad 0), .int (nI d)] : List Value).toArray s 0 0 (bw_A ad 13 s.heap.size)) (F0 m 35 ls [])) := by
    intro kf
    induction kf with
    | zero => exact ⟨by intros; omega, by intros; omega⟩
    | succ kf ih =>
      refine ⟨?_, ?_⟩
      · skip
        intro i  M1 H locs ls hi hinv hmu hP hS hl
        refine lv_iload_n hx hb dM_makesModel_25 rfl (lv_at hl 0 rfl) ?_
        refine lv_iconst (v := nI 3) hx hb dM_makesModel_26 (by decide) ?_
        refine ln_icmp_ge (tgt := 119) hx hb dM_makesModel_27 (by decide) (by omega) (by omega) (fun c_27 => ?_) (fun c_27 => ?_)
        · skip
          refine lv_aload_n hx hb dM_makesModel_119 rfl (lv_at hl 1 rfl) ?_
          refine bw_get (own := RM) (ci := 2) (C := RM) (T := TM) (N := 14) (v := .ref (ad 12)) hx hb hts inM hown hE hP 0 (by decide) rfl rfl 13 (by decide) w_329 rfl rfl dM_makesModel_120 ?_
          refine lv_aload_n hx hb dM_makesModel_123 rfl (lv_at hl 1 rfl) ?_
          refine bw_get (own := RM) (ci := 2) (C := RM) (T := TM) (N := 14) (v := .ref (ad 9)) hx hb hts inM hown hE hP 0 (by decide) rfl rfl 10 (by decide) w_326 rfl rfl dM_makesModel_124 ?_
          refine bc_callv (bc_runS (own := RM) (As := [.ref (ad 12), .ref (ad 9)]) (rest := []) hx hb (hml.trans hl.1.symm) hown hts (kM_copy l D cs ad hI M1 H.size 12 9 (by decide) (by decide) (fun _ => rfl) (fun _ => rfl) (by decide)) w_449 w_447 w_448 w_4 hd_M_copy rfl ⟨rfl, rfl⟩ ⟨Nat.le_of_ble_eq_true rfl, Nat.le_of_ble_eq_true rfl⟩ (fun _ _ _ _ h => h.calling) (fun U hU hW => ⟨by rw [hU], by rw [hU]; exact hP, hE.warm hW⟩) rfl (Nat.le_of_ble_eq_true rfl) dM_makesModel_127 ⟨Nat.le_of_ble_eq_true rfl, Nat.le_of_ble_eq_true rfl⟩) hS (fun M_4 H locs hr_127 hP hS => ?_)
          refine lv_aload_n hx hb dM_makesModel_130 rfl (lv_at hl 1 rfl) ?_
          refine bc_callv (bc_runV (own := RM) (C := RM) (As := []) (rest := []) hx hb (hml.trans hl.1.symm) hown hts (kM_times l D cs ad hI M_4 H.size (jview (rE M)) (jworld (M 1).1 (fun n => jlocal (rU M n)) d) (by rw [hr_127.1 8 (by decide)]; exact lfill.done (hinv.le (by omega))) (hr_127.lm (by rw [hinv.1 12 (by decide), hr_20.1 12 (by decide)]; exact hr_13.lm hr_2.2))) w_438 w_435 w_437 ws_sel_M_times w_4 ⟨rfl, hd_M_times⟩ rfl ⟨rfl, rfl⟩ ⟨Nat.le_of_ble_eq_true rfl, Nat.le_of_ble_eq_true rfl⟩ (fun _ _ _ _ h => h.calling) (bc_recv (r := (RM, TM, 14)) hE hP 0 (by decide) rfl rfl) (fun U hU hW => ⟨by rw [hU], by rw [hU]; exact hP, hE.warm hW⟩) rfl (Nat.le_of_ble_eq_true rfl) dM_makesModel_131 ⟨Nat.le_of_ble_eq_true rfl, Nat.le_of_ble_eq_true rfl⟩) hS (fun M_5 H locs hr_131 hP hS => ?_)
          exact W.vret hx hb hr (fun t ht hW => ⟨⟨M_5, rfl, ⟨fun q hq => by rw [hr_131.1 q (by omega), hr_127.1 q (by omega), hinv.1 q (by omega), hr_20.1 q (by omega), hr_13.1 q (by omega)]; exact hr_2.1 q hq, hr_131.2⟩, by show va_P _ _ _ t.heap; rw [ht]; exact hP⟩, hS.F ht⟩) hS.2.2 dM_makesModel_134
        · skip
          refine lv_lconst (v := 0) hx hb dM_makesModel_30 (by decide) ?_
          refine lv_lstore_n (lv' := [(3, .long 0), (2, .int (nI i)), (0, .ref (ad 0)), (1, .int (nI d))]) hx hb dM_makesModel_31 rfl hl (by decide) rfl (fun ls hl => ?_)
          refine lv_iconst (v := nI 0) hx hb dM_makesModel_32 (by decide) ?_
          refine lv_istore (lv' := [(5, .int (nI 0)), (3, .long 0), (2, .int (nI i)), (0, .ref (ad 0)), (1, .int (nI d))]) hx hb dM_makesModel_33 hl (by decide) rfl (fun ls hl => ?_)
          exact ih.2 i 0  M1 H locs ls (by omega) (by omega) (hinv) (by omega) hP hS (lv_sub hl [2, 0, 3, 4, 1] rfl)
      · skip
        intro i j  M1 H locs ls hi hj0 hinv hmu hP hS hl
        refine lv_iload hx hb dM_makesModel_35 (lv_at hl 1 rfl) ?_
        refine lv_iconst (v := nI 3) hx hb dM_makesModel_37 (by decide) ?_
        refine ln_icmp_ge (tgt := 98) hx hb dM_makesModel_38 (by decide) (by omega) (by omega) (fun c_38 => ?_) (fun c_38 => ?_)
        · skip
          have hj3 : j = 3 := by omega
          rw [hj3] at hinv
          refine lv_aload_n hx hb dM_makesModel_98 rfl (lv_at hl 2 rfl) ?_
          refine bw_get (own := RM) (ci := 2) (C := RM) (T := TM) (N := 14) (v := .ref (ad 8)) hx hb hts inM hown hE hP 0 (by decide) rfl rfl 9 (by decide) w_325 rfl rfl dM_makesModel_99 ?_
          refine lv_iconst (v := nI 4) hx hb dM_makesModel_102 (by decide) ?_
          refine lv_iload_n hx hb dM_makesModel_103 rfl (lv_at hl 0 rfl) ?_
          refine ln_imul hx hb dM_makesModel_104 ?_
          refine lv_iconst (v := nI 3) hx hb dM_makesModel_105 (by decide) ?_
          refine ln_iadd hx hb dM_makesModel_106 ?_
          refine lv_lload_n hx hb dM_makesModel_107 rfl (lv_at hl 4 rfl) ?_
          refine lv_lneg hx hb dM_makesModel_108 ?_
          refine vp_callSl (va_Run.run (bc_runS (own := RM) (As := [.long (-(jal (jturn (rE M 3) (rE M 4) (rE M 5)) (rE M) i j))]) (rest := [.int (nI ((4 * i) + 3)), .ref (ad 8)]) hx hb (hml.trans hl.1.symm) hown hts (kM_bound l (-(jal (jturn (rE M 3) (rE M 4) (rE M 5)) (rE M) i j))) w_444 w_442 w_443 w_4 hd_M_bound rfl ⟨rfl, rfl⟩ ⟨Nat.le_of_ble_eq_true rfl, Nat.le_of_ble_eq_true rfl⟩ (fun _ _ _ _ _ => trivial) (fun _ _ _ => trivial) rfl (Nat.le_of_ble_eq_true rfl) dM_makesModel_109 ⟨Nat.le_of_ble_eq_true rfl, Nat.le_of_ble_eq_true rfl⟩)) (fun r_109 hr_109 => ?_)
          refine ln_last (L := 12) hx hb hE hI hP hS 8 3 (by decide) (rfl) rfl (by omega) (by decide) (((M1 8).1, vp_updL (M1 8).2 ((4 * i) + 3) r_109)) (rfl) dM_makesModel_112 (fun M_6 H locs eM_6 hP hS => ?_)
          refine lv_iinc (v := nI (i + 1)) (lv' := [(2, .int (nI (i + 1))), (5, .int (nI j)), (0, .ref (ad 0)), (1, .int (nI d)), (3, .long (jal (jturn (rE M 3) (rE M 4) (rE M 5)) (rE M) i j))]) hx hb dM_makesModel_113 hl (k := 0) rfl (nI_add i 1) (by decide) rfl (fun ls hl => ?_)
          refine lv_goto (tgt := 25) hx hb dM_makesModel_116 (by decide) ?_
          exact ih.1 (i + 1)  M_6 H locs ls (by omega) (lfill.le (hinv.step eM_6 (by rw [hr_109, hj3]; exact jvc_l.symm) (by decide)) (by omega)) (by omega) hP hS (lv_sub hl [0, 2, 3] rfl)
        · skip
          refine lv_aload_n hx hb dM_makesModel_41 rfl (lv_at hl 2 rfl) ?_
          refine bw_get (own := RM) (ci := 2) (C := RM) (T := TM) (N := 14) (v := .ref (ad 8)) hx hb hts inM hown hE hP 0 (by decide) rfl rfl 9 (by decide) w_325 rfl rfl dM_makesModel_42 ?_
          refine lv_iconst (v := nI 4) hx hb dM_makesModel_45 (by decide) ?_
          refine lv_iload_n hx hb dM_makesModel_46 rfl (lv_at hl 0 rfl) ?_
          refine ln_imul hx hb dM_makesModel_47 ?_
          refine lv_iload hx hb dM_makesModel_48 (lv_at hl 1 rfl) ?_
          refine ln_iadd hx hb dM_makesModel_50 ?_
          refine lv_aload_n hx hb dM_makesModel_51 rfl (lv_at hl 2 rfl) ?_
          refine bw_get (own := RM) (ci := 2) (C := RM) (T := TM) (N := 14) (v := .ref (ad 10)) hx hb hts inM hown hE hP 0 (by decide) rfl rfl 11 (by decide) w_327 rfl rfl dM_makesModel_52 ?_
          refine lv_iconst (v := nI 4) hx hb dM_makesModel_55 (by decide) ?_
          refine lv_iload hx hb dM_makesModel_56 (lv_at hl 1 rfl) ?_
          refine ln_imul hx hb dM_makesModel_58 ?_
          refine lv_iload_n hx hb dM_makesModel_59 rfl (lv_at hl 0 rfl) ?_
          refine ln_iadd hx hb dM_makesModel_60 ?_
          refine ln_lald (L := 12) (g := (M1 10).2) hx hb hE hP 10 3 (by decide) (rfl) rfl (by omega) (by decide) dM_makesModel_61 ?_
          refine ln_last (L := 12) hx hb hE hI hP hS 8 3 (by decide) (rfl) rfl (by omega) (by decide) (((M1 8).1, vp_updL (M1 8).2 ((4 * i) + j) ((M1 10).2 ((4 * j) + i)))) (rfl) dM_makesModel_62 (fun M_7 H locs eM_7 hP hS => ?_)
          refine lv_lload_n hx hb dM_makesModel_63 rfl (lv_at hl 4 rfl) ?_
          refine lv_aload_n hx hb dM_makesModel_64 rfl (lv_at hl 2 rfl) ?_
          refine bw_get (own := RM) (ci := 2) (C := RM) (T := TM) (N := 14) (v := .ref (ad 8)) hx hb hts inM hown hE hP 0 (by decide) rfl rfl 9 (by decide) w_325 rfl rfl dM_makesModel_65 ?_
          refine lv_iconst (v := nI 4) hx hb dM_makesModel_68 (by decide) ?_
          refine lv_iload_n hx hb dM_makesModel_69 rfl (lv_at hl 0 rfl) ?_
          refine ln_imul hx hb dM_makesModel_70 ?_
          refine lv_iload hx hb dM_makesModel_71 (lv_at hl 1 rfl) ?_
          refine ln_iadd hx hb dM_makesModel_73 ?_
          refine ln_lald (L := 12) (g := (M_7 8).2) hx hb hE hP 8 3 (by decide) (rfl) rfl (by omega) (by decide) dM_makesModel_74 ?_
          refine lv_aload_n hx hb dM_makesModel_75 rfl (lv_at hl 2 rfl) ?_
          refine bw_get (own := RM) (ci := 2) (C := RM) (T := TM) (N := 14) (v := .ref (ad 4)) hx hb hts inM hown hE hP 0 (by decide) rfl rfl 5 (by decide) w_321 rfl rfl dM_makesModel_76 ?_
          refine lv_sipush (v := nI 432) hx hb dM_makesModel_79 (by decide) ?_
          refine lv_iload hx hb dM_makesModel_82 (lv_at hl 1 rfl) ?_
          refine ln_iadd hx hb dM_makesModel_84 ?_
          refine ln_iald (L := 441) (g := (M_7 4).1) hx hb hE hP 4 0 (by decide) (rfl) rfl (by omega) (by decide) dM_makesModel_85 ?_
          refine lv_i2l (v := ((M_7 4).1 (432 + j)).toInt64) hx hb dM_makesModel_86 rfl ?_
          refine vp_callSl (va_Run.run (bc_runS (own := RM) (As := [.long ((M_7 8).2 ((4 * i) + j)), .long (((M_7 4).1 (432 + j)).toInt64)]) (rest := [.long (jal (jturn (rE M 3) (rE M 4) (rE M 5)) (rE M) i j)]) hx hb (hml.trans hl.1.symm) hown hts (kM_mul l ((M_7 8).2 ((4 * i) + j)) (((M_7 4).1 (432 + j)).toInt64)) w_441 w_439 w_440 w_4 hd_M_mul rfl ⟨rfl, rfl⟩ ⟨Nat.le_of_ble_eq_true rfl, Nat.le_of_ble_eq_true rfl⟩ (fun _ _ _ _ _ => trivial) (fun _ _ _ => trivial) rfl (Nat.le_of_ble_eq_true rfl) dM_makesModel_87 ⟨Nat.le_of_ble_eq_true rfl, Nat.le_of_ble_eq_true rfl⟩)) (fun r_87 hr_87 => ?_)
          refine lv_ladd hx hb dM_makesModel_90 ?_
          refine ln_asl (jal (jturn (rE M 3) (rE M 4) (rE M 5)) (rE M) i (j + 1)) (by rw [hr_87, eM_7, va_up_self, l_us, va_up_ne _ _ (by decide), hinv.1 10 (by decide), hinv.1 4 (by decide), h4, hr_20.2 (4 * j + i) (by omega), h42, jal_succ]; show _ + jmul _ ((M 4).1 (432 + j)).toInt64 = _ + jmul _ ((M 4).1 (432 + (0 + j))).toInt64; rw [Nat.zero_add]; rfl) ?_
          refine lv_lstore_n (lv' := [(3, .long (jal (jturn (rE M 3) (rE M 4) (rE M 5)) (rE M) i (j + 1))), (2, .int (nI i)), (5, .int (nI j)), (0, .ref (ad 0)), (1, .int (nI d))]) hx hb dM_makesModel_91 rfl hl (by decide) rfl (fun ls hl => ?_)
          refine lv_iinc (v := nI (j + 1)) (lv' := [(5, .int (nI (j + 1))), (3, .long (jal (jturn (rE M 3) (rE M 4) (rE M 5)) (rE M) i (j + 1))), (2, .int (nI i)), (0, .ref (ad 0)), (1, .int (nI d))]) hx hb dM_makesModel_92 hl (k := 2) rfl (nI_add j 1) (by decide) rfl (fun ls hl => ?_)
          refine lv_goto (tgt := 35) hx hb dM_makesModel_95 (by decide) ?_
          exact ih.2 i (j + 1)  M_7 H locs ls (by omega) (by omega) (hinv.step eM_7 (by rw [hinv.1 10 (by decide), hr_20.2 (4 * j + i) (by omega), h42]; unfold jvc; rw [if_neg (by omega)]; rfl) (by omega)) (by omega) hP hS (lv_sub hl [2, 0, 3, 4, 1] rfl)
  exact (loop 100000).1 0  M_3 H locs ls (by omega) (lfill.zero) (by omega) hP hS (lv_sub hl [0, 1, 2] rfl)

set_option maxHeartbeats 4000000 in
set_option maxRecDepth 100000 in
theorem kM_isPlace (l : Launch) (D : va_G) (cs : Nat → ClassId) (ad : Nat → Nat) (hI : bw_I ad 13) (M : Nat → mRow) (sz : Nat) (n i j : Int32)  : Met l yM_isPlace (wc yM_isPlace cM_isPlace 4 (some .boolean)) ({ frames := 1, cells := 0, slots := 0, locals := 21 } : Room) (va_Pc [.ref (ad 0), .int n, .int i, .int j] (mP D cs ad M sz)) (vp_Si (jb ((0 ≤ n ∧ n < (M 0).1 1) ∧ (0 ≤ i ∧ i < 3) ∧ (0 ≤ j ∧ j < 4)))) 0 0 (fun _ => False) := by
  refine Met.ofW (cc := cM_isPlace) (maxL := 4) (ret := (some .boolean)) (by decide +kernel) rfl ?_
  intro p e s m args below meth c s₁ B hml hv
  obtain ⟨rfl, hsz, hP, hE⟩ := hv
  subst hsz
  have hx := B.exec
  have hb := B.bytes
  have hr := B.returns
  have hts : ∀ w9 ∈ ws_all, w9.before ([.ref (ad 0), .int n, .int i, .int j] : List Value).toArray s = true := fun w9 h => atoms_spec (ws := (wc yM_isPlace cM_isPlace 4 (some .boolean))) B.pre w9 (List.mem_cons_of_mem _ h)
  have hown : s.vm.findClass RM = some m.cls := findClass_of_methodNamed B.named
  have hlocks := B.notSynchronized
  have hl := lv_entry ([.ref (ad 0), .int n, .int i, .int j]) (n := 4) (Nat.le_of_ble_eq_true rfl)
  rw [lg_entry_eq]
  generalize (lg_sl ([.ref (ad 0), .int n, .int i, .int j]) ++ List.replicate (4 - (lg_sl ([.ref (ad 0), .int n, .int i, .int j])).length) Slot.unset).toArray = ls at hl ⊢
  have hl : lv_has ls 4 [(0, .ref (ad 0)), (1, .int n), (2, .int i), (3, .int j)] := hl
  refine lv_aload_n hx hb dM_isPlace_0 rfl (lv_at hl 0 rfl) ?_
  refine lv_iload_n hx hb dM_isPlace_1 rfl (lv_at hl 1 rfl) ?_
  refine vp_callSi (va_Run.run (bc_runV (own := RM) (C := RM) (As := [.int n]) (rest := []) hx hb (hml.trans hl.1.symm) hown hts (kM_isNode l D cs ad hI M s.heap.size n) w_380 w_377 w_379 ws_sel_M_isNode w_4 ⟨rfl, hd_M_isNode⟩ rfl ⟨rfl, rfl⟩ ⟨Nat.le_of_ble_eq_true rfl, Nat.le_of_ble_eq_true rfl⟩ (fun _ _ _ _ h => h.calling) (bc_recv (r := (RM, TM, 14)) hE hP 0 (by decide) rfl rfl) (fun U hU hW => ⟨by rw [hU], by rw [hU]; exact hP, hE.warm hW⟩) rfl (Nat.le_of_ble_eq_true rfl) dM_isPlace_2 ⟨Nat.le_of_ble_eq_true rfl, Nat.le_of_ble_eq_true rfl⟩)) (fun r_2 hr_2 => ?_)
  refine lv_if_eq (tgt := 30) hx hb dM_isPlace_5 (by decide) (fun c_5 => ?_) (fun c_5 => ?_)
  · skip
    refine lv_iconst (v := nI 0) hx hb dM_isPlace_30 (by decide) ?_
    exact W.zret (v := nI 0) (ty := .boolean) hx hb hr (by decide) (fun t ht hW => ⟨_, rfl, jb.zero (fun h9 => hr_2.f c_5 h9.1), ht⟩) (fun _ h => nomatch h) dM_isPlace_31
  · skip
    refine lv_iload_n hx hb dM_isPlace_8 rfl (lv_at hl 2 rfl) ?_
    refine lv_if_lt (tgt := 30) hx hb dM_isPlace_9 (by decide) (fun c_9 => ?_) (fun c_9 => ?_)
    · skip
      refine lv_iconst (v := nI 0) hx hb dM_isPlace_30 (by decide) ?_
      exact W.zret (v := nI 0) (ty := .boolean) hx hb hr (by decide) (fun t ht hW => ⟨_, rfl, jb.zero (fun h9 => by have := h9.2; simp only [Int32.lt_iff_toInt_lt, Int32.le_iff_toInt_le, nI, Int32.reduceOfNat, Int32.reduceToInt] at this c_9; omega), ht⟩) (fun _ h => nomatch h) dM_isPlace_31
    · skip
      refine lv_iload_n hx hb dM_isPlace_12 rfl (lv_at hl 2 rfl) ?_
      refine lv_iconst (v := nI 3) hx hb dM_isPlace_13 (by decide) ?_
      refine lv_icmp_ge (tgt := 30) hx hb dM_isPlace_14 (by decide) (fun c_14 => ?_) (fun c_14 => ?_)
      · skip
        refine lv_iconst (v := nI 0) hx hb dM_isPlace_30 (by decide) ?_
        exact W.zret (v := nI 0) (ty := .boolean) hx hb hr (by decide) (fun t ht hW => ⟨_, rfl, jb.zero (fun h9 => by have := h9.2; simp only [Int32.lt_iff_toInt_lt, Int32.le_iff_toInt_le, nI, Int32.reduceOfNat, Int32.reduceToInt] at this c_9 c_14; omega), ht⟩) (fun _ h => nomatch h) dM_isPlace_31
      · skip
        refine lv_iload_n hx hb dM_isPlace_17 rfl (lv_at hl 3 rfl) ?_
        refine lv_if_lt (tgt := 30) hx hb dM_isPlace_18 (by decide) (fun c_18 => ?_) (fun c_18 => ?_)
        · skip
          refine lv_iconst (v := nI 0) hx hb dM_isPlace_30 (by decide) ?_
          exact W.zret (v := nI 0) (ty := .boolean) hx hb hr (by decide) (fun t ht hW => ⟨_, rfl, jb.zero (fun h9 => by have := h9.2; simp only [Int32.lt_iff_toInt_lt, Int32.le_iff_toInt_le, nI, Int32.reduceOfNat, Int32.reduceToInt] at this c_9 c_14 c_18; omega), ht⟩) (fun _ h => nomatch h) dM_isPlace_31
        · skip
          refine lv_iload_n hx hb dM_isPlace_21 rfl (lv_at hl 3 rfl) ?_
          refine lv_iconst (v := nI 4) hx hb dM_isPlace_22 (by decide) ?_
          refine lv_icmp_ge (tgt := 30) hx hb dM_isPlace_23 (by decide) (fun c_23 => ?_) (fun c_23 => ?_)
          · skip
            refine lv_iconst (v := nI 0) hx hb dM_isPlace_30 (by decide) ?_
            exact W.zret (v := nI 0) (ty := .boolean) hx hb hr (by decide) (fun t ht hW => ⟨_, rfl, jb.zero (fun h9 => by have := h9.2; simp only [Int32.lt_iff_toInt_lt, Int32.le_iff_toInt_le, nI, Int32.reduceOfNat, Int32.reduceToInt] at this c_9 c_14 c_18 c_23; omega), ht⟩) (fun _ h => nomatch h) dM_isPlace_31
          · skip
            refine lv_iconst (v := nI 1) hx hb dM_isPlace_26 (by decide) ?_
            refine lv_goto (tgt := 31) hx hb dM_isPlace_27 (by decide) ?_
            exact W.zret (v := nI 1) (ty := .boolean) hx hb hr (by decide) (fun t ht hW => ⟨_, rfl, jb.one ⟨hr_2.t c_5, by simp only [Int32.lt_iff_toInt_lt, Int32.le_iff_toInt_le, nI, Int32.reduceOfNat, Int32.reduceToInt] at c_9 c_14 c_18 c_23 ⊢; omega⟩, ht⟩) (fun _ h => nomatch h) dM_isPlace_31

set_option maxHeartbeats 4000000 in
set_option maxRecDepth 100000 in
theorem kM_world (l : Launch) (D : va_G) (cs : Nat → ClassId) (ad : Nat → Nat) (hI : bw_I ad 13) (M : Nat → mRow) (sz : Nat) (A : Ab) (hA : aOk A) (hC : Ref A M) (n i j : Int32)  : Met l yM_world (wc yM_world cM_world 4 (some .int)) ({ frames := 6, cells := 0, slots := 0, locals := 136 } : Room) (va_Pc [.ref (ad 0), .int n, .int i, .int j] (mP D cs ad M sz)) (bQi D ad 13 (mc_cell cs ad) sz (fun r M1 => Ref A M1 ∧ ((pCell A n i j ∧ (M1 0).1 0 = nI 0 ∧ r = wA A n.toNatClampNeg (4 * i.toNatClampNeg + j.toNatClampNeg)) ∨ (¬ pCell A n i j ∧ (M1 0).1 0 = nI 1)))) 0 0 (bw_A ad 13 sz) := by
  refine Met.ofW (cc := cM_world) (maxL := 4) (ret := (some .int)) (by decide +kernel) rfl ?_
  intro p e s m args below meth c s₁ B hml hv
  obtain ⟨rfl, hsz, hP, hE⟩ := hv
  subst hsz
  have hx := B.exec
  have hb := B.bytes
  have hr := B.returns
  have hts : ∀ w9 ∈ ws_all, w9.before ([.ref (ad 0), .int n, .int i, .int j] : List Value).toArray s = true := fun w9 h => atoms_spec (ws := (wc yM_world cM_world 4 (some .int))) B.pre w9 (List.mem_cons_of_mem _ h)
  have hown : s.vm.findClass RM = some m.cls := findClass_of_methodNamed B.named
  have hlocks := B.notSynchronized
  have hS : va_S (bw_A ad 13 s.heap.size) s.heap s.heap [] := va_S.rf
  have hl := lv_entry ([.ref (ad 0), .int n, .int i, .int j]) (n := 4) (Nat.le_of_ble_eq_true rfl)
  rw [lg_entry_eq]
  generalize (lg_sl ([.ref (ad 0), .int n, .int i, .int j]) ++ List.replicate (4 - (lg_sl ([.ref (ad 0), .int n, .int i, .int j])).length) Slot.unset).toArray = ls at hl ⊢
  have hl : lv_has ls 4 [(0, .ref (ad 0)), (1, .int n), (2, .int i), (3, .int j)] := hl
  have hN : aN A ≤ 48 := hA.1
  obtain ⟨hn, hrow, heye⟩ := id hC
  refine lv_aload_n hx hb dM_world_0 rfl (lv_at hl 0 rfl) ?_
  refine lv_aload_n hx hb dM_world_1 rfl (lv_at hl 0 rfl) ?_
  refine lv_iload_n hx hb dM_world_2 rfl (lv_at hl 1 rfl) ?_
  refine lv_iload_n hx hb dM_world_3 rfl (lv_at hl 2 rfl) ?_
  refine lv_iload_n hx hb dM_world_4 rfl (lv_at hl 3 rfl) ?_
  refine vp_callSi (va_Run.run (bc_runV (own := RM) (C := RM) (As := [.int n, .int i, .int j]) (rest := [.ref (ad 0)]) hx hb (hml.trans hl.1.symm) hown hts (kM_isPlace l D cs ad hI M s.heap.size n i j) w_409 w_406 w_408 ws_sel_M_isPlace w_4 ⟨rfl, hd_M_isPlace⟩ rfl ⟨rfl, rfl⟩ ⟨Nat.le_of_ble_eq_true rfl, Nat.le_of_ble_eq_true rfl⟩ (fun _ _ _ _ h => h.calling) (bc_recv (r := (RM, TM, 14)) hE hP 0 (by decide) rfl rfl) (fun U hU hW => ⟨by rw [hU], by rw [hU]; exact hP, hE.warm hW⟩) rfl (Nat.le_of_ble_eq_true rfl) dM_world_5 ⟨Nat.le_of_ble_eq_true rfl, Nat.le_of_ble_eq_true rfl⟩)) (fun r_5 hr_5 => ?_)
  rw [hn] at hr_5
  refine lv_if_eq (tgt := 15) hx hb dM_world_8 (by decide) (fun c_8 => ?_) (fun c_8 => ?_)
  · skip
    refine lv_iconst (v := nI 1) hx hb dM_world_15 (by decide) ?_
    refine bw_put (own := RM) (ci := 2) (C := RM) (T := TM) (N := 14) (v := .int (nI 1)) (ty := .int) hx hb hts inM tyM tyM_ok nmM hown hE hI hP hS 0 (by decide) rfl rfl 0 (by decide) w_316 rfl rfl ((upd (M 0).1 0 (nI 1), (M 0).2)) rfl (by decide +kernel) rfl rfl (Nat.le_of_ble_eq_true rfl) dM_world_16 (fun M_1 H locs eM_1 hP hS => ?_)
    refine lv_aload_n hx hb dM_world_19 rfl (lv_at hl 0 rfl) ?_
    refine bw_get (own := RM) (ci := 2) (C := RM) (T := TM) (N := 14) (v := .int ((M_1 0).1 0)) hx hb hts inM hown hE hP 0 (by decide) rfl rfl 0 (by decide) w_316 rfl rfl dM_world_20 ?_
    refine ln_asi (nI 1) (by rw [eM_1, va_up_self]; exact m_us) ?_
    refine lv_iconst (v := nI 1) hx hb dM_world_23 (by decide) ?_
    refine ln_icmp_ne (tgt := 29) hx hb dM_world_24 (by decide) (by omega) (by omega) (fun c_24 => ?_) (fun c_24 => ?_)
    · skip
      exact absurd rfl c_24
    · skip
      refine lv_iconst (v := nI 0) hx hb dM_world_27 (by decide) ?_
      exact W.iret (v := nI 0) hx hb hr (fun t ht hW => ⟨⟨_, M_1, rfl, ⟨hC.thr eM_1, Or.inr ⟨hr_5.f c_8, by rw [eM_1, va_up_self]; exact m_us⟩⟩, by show va_P _ _ _ t.heap; rw [ht]; exact hP⟩, hS.F ht⟩) hS.2.2 dM_world_28
  · skip
    refine lv_iconst (v := nI 0) hx hb dM_world_11 (by decide) ?_
    refine lv_goto (tgt := 16) hx hb dM_world_12 (by decide) ?_
    refine bw_put (own := RM) (ci := 2) (C := RM) (T := TM) (N := 14) (v := .int (nI 0)) (ty := .int) hx hb hts inM tyM tyM_ok nmM hown hE hI hP hS 0 (by decide) rfl rfl 0 (by decide) w_316 rfl rfl ((upd (M 0).1 0 (nI 0), (M 0).2)) rfl (by decide +kernel) rfl rfl (Nat.le_of_ble_eq_true rfl) dM_world_16 (fun M_2 H locs eM_2 hP hS => ?_)
    refine lv_aload_n hx hb dM_world_19 rfl (lv_at hl 0 rfl) ?_
    refine bw_get (own := RM) (ci := 2) (C := RM) (T := TM) (N := 14) (v := .int ((M_2 0).1 0)) hx hb hts inM hown hE hP 0 (by decide) rfl rfl 0 (by decide) w_316 rfl rfl dM_world_20 ?_
    refine ln_asi (nI 0) (by rw [eM_2, va_up_self]; exact m_us) ?_
    refine lv_iconst (v := nI 1) hx hb dM_world_23 (by decide) ?_
    refine ln_icmp_ne (tgt := 29) hx hb dM_world_24 (by decide) (by omega) (by omega) (fun c_24 => ?_) (fun c_24 => ?_)
    · skip
      have hp9 : pCell A n i j := hr_5.t c_8
      have hC1 := hC.thr eM_2
      obtain ⟨d, hd, rfl⟩ := rng_lt hp9.1.1 hp9.1.2 (by omega)
      obtain ⟨u, hu, rfl⟩ := rng_lt (a := 3) hp9.2.1.1 hp9.2.1.2 (by decide)
      obtain ⟨v, hv, rfl⟩ := rng_lt (a := 4) hp9.2.2.1 hp9.2.2.2 (by decide)
      refine lv_aload_n hx hb dM_world_29 rfl (lv_at hl 0 rfl) ?_
      refine lv_iload_n hx hb dM_world_30 rfl (lv_at hl 1 rfl) ?_
      refine bc_callv (bc_runV (own := RM) (C := RM) (As := [.int (nI d)]) (rest := []) hx hb (hml.trans hl.1.symm) hown hts (kM_makesWorld l D cs ad hI M_2 H.size (aN A) d hN hd (hC1.pok hA)) w_413 w_410 w_412 ws_sel_M_makesWorld w_4 ⟨rfl, hd_M_makesWorld⟩ rfl ⟨rfl, rfl⟩ ⟨Nat.le_of_ble_eq_true rfl, Nat.le_of_ble_eq_true rfl⟩ (fun _ _ _ _ h => h.calling) (bc_recv (r := (RM, TM, 14)) hE hP 0 (by decide) rfl rfl) (fun U hU hW => ⟨by rw [hU], by rw [hU]; exact hP, hE.warm hW⟩) rfl (Nat.le_of_ble_eq_true rfl) dM_world_31 ⟨Nat.le_of_ble_eq_true rfl, Nat.le_of_ble_eq_true rfl⟩) hS (fun M_3 H locs hr_31 hP hS => ?_)
      have hC2 : Ref A M_3 := hC1.keep (fun q h1 h2 => by rw [hr_31.1 q (by omega)]) (by rw [hr_31.1 0 (by decide)])
      refine lv_aload_n hx hb dM_world_34 rfl (lv_at hl 0 rfl) ?_
      refine bw_get (own := RM) (ci := 2) (C := RM) (T := TM) (N := 14) (v := .ref (ad 7)) hx hb hts inM hown hE hP 0 (by decide) rfl rfl 8 (by decide) w_324 rfl rfl dM_world_35 ?_
      refine lv_iconst (v := nI 4) hx hb dM_world_38 (by decide) ?_
      refine lv_iload_n hx hb dM_world_39 rfl (lv_at hl 2 rfl) ?_
      refine ln_imul hx hb dM_world_40 ?_
      refine lv_iload_n hx hb dM_world_41 rfl (lv_at hl 3 rfl) ?_
      refine ln_iadd hx hb dM_world_42 ?_
      refine ln_lald (L := 12) (g := (M_3 7).2) hx hb hE hP 7 3 (by decide) (rfl) rfl (by omega) (by decide) dM_world_43 ?_
      refine lv_l2i (v := ((M_3 7).2 ((4 * u) + v)).toInt32) hx hb dM_world_44 rfl ?_
      exact W.iret (v := ((M_3 7).2 ((4 * u) + v)).toInt32) hx hb hr (fun t ht hW => ⟨⟨_, M_3, rfl, ⟨hC2, Or.inl ⟨hp9, by rw [hr_31.1 0 (by decide), eM_2, va_up_self]; exact m_us, by rw [nI_clamp (by omega), nI_clamp (by omega), nI_clamp (by omega), hr_31.2 (4 * u + v) (by omega), i_back]; exact hC1.world hA hd (4 * u + v) (by omega)⟩⟩, by show va_P _ _ _ t.heap; rw [ht]; exact hP⟩, hS.F ht⟩) hS.2.2 dM_world_45
    · skip
      exact absurd c_24 (by decide)

set_option maxHeartbeats 4000000 in
set_option maxRecDepth 100000 in
theorem kM_model (l : Launch) (D : va_G) (cs : Nat → ClassId) (ad : Nat → Nat) (hI : bw_I ad 13) (M : Nat → mRow) (sz : Nat) (A : Ab) (hA : aOk A) (hC : Ref A M) (n i j : Int32)  : Met l yM_model (wc yM_model cM_model 4 (some .int)) ({ frames := 7, cells := 0, slots := 0, locals := 161 } : Room) (va_Pc [.ref (ad 0), .int n, .int i, .int j] (mP D cs ad M sz)) (bQi D ad 13 (mc_cell cs ad) sz (fun r M1 => Ref A M1 ∧ ((pCell A n i j ∧ (M1 0).1 0 = nI 0 ∧ r = mA A n.toNatClampNeg i.toNatClampNeg j.toNatClampNeg) ∨ (¬ pCell A n i j ∧ (M1 0).1 0 = nI 1)))) 0 0 (bw_A ad 13 sz) := by
  refine Met.ofW (cc := cM_model) (maxL := 4) (ret := (some .int)) (by decide +kernel) rfl ?_
  intro p e s m args below meth c s₁ B hml hv
  obtain ⟨rfl, hsz, hP, hE⟩ := hv
  subst hsz
  have hx := B.exec
  have hb := B.bytes
  have hr := B.returns
  have hts : ∀ w9 ∈ ws_all, w9.before ([.ref (ad 0), .int n, .int i, .int j] : List Value).toArray s = true := fun w9 h => atoms_spec (ws := (wc yM_model cM_model 4 (some .int))) B.pre w9 (List.mem_cons_of_mem _ h)
  have hown : s.vm.findClass RM = some m.cls := findClass_of_methodNamed B.named
  have hlocks := B.notSynchronized
  have hS : va_S (bw_A ad 13 s.heap.size) s.heap s.heap [] := va_S.rf
  have hl := lv_entry ([.ref (ad 0), .int n, .int i, .int j]) (n := 4) (Nat.le_of_ble_eq_true rfl)
  rw [lg_entry_eq]
  generalize (lg_sl ([.ref (ad 0), .int n, .int i, .int j]) ++ List.replicate (4 - (lg_sl ([.ref (ad 0), .int n, .int i, .int j])).length) Slot.unset).toArray = ls at hl ⊢
  have hl : lv_has ls 4 [(0, .ref (ad 0)), (1, .int n), (2, .int i), (3, .int j)] := hl
  have hN : aN A ≤ 48 := hA.1
  obtain ⟨hn, hrow, heye⟩ := id hC
  refine lv_aload_n hx hb dM_model_0 rfl (lv_at hl 0 rfl) ?_
  refine lv_aload_n hx hb dM_model_1 rfl (lv_at hl 0 rfl) ?_
  refine lv_iload_n hx hb dM_model_2 rfl (lv_at hl 1 rfl) ?_
  refine lv_iload_n hx hb dM_model_3 rfl (lv_at hl 2 rfl) ?_
  refine lv_iload_n hx hb dM_model_4 rfl (lv_at hl 3 rfl) ?_
  refine vp_callSi (va_Run.run (bc_runV (own := RM) (C := RM) (As := [.int n, .int i, .int j]) (rest := [.ref (ad 0)]) hx hb (hml.trans hl.1.symm) hown hts (kM_isPlace l D cs ad hI M s.heap.size n i j) w_409 w_406 w_408 ws_sel_M_isPlace w_4 ⟨rfl, hd_M_isPlace⟩ rfl ⟨rfl, rfl⟩ ⟨Nat.le_of_ble_eq_true rfl, Nat.le_of_ble_eq_true rfl⟩ (fun _ _ _ _ h => h.calling) (bc_recv (r := (RM, TM, 14)) hE hP 0 (by decide) rfl rfl) (fun U hU hW => ⟨by rw [hU], by rw [hU]; exact hP, hE.warm hW⟩) rfl (Nat.le_of_ble_eq_true rfl) dM_model_5 ⟨Nat.le_of_ble_eq_true rfl, Nat.le_of_ble_eq_true rfl⟩)) (fun r_5 hr_5 => ?_)
  rw [hn] at hr_5
  refine lv_if_eq (tgt := 15) hx hb dM_model_8 (by decide) (fun c_8 => ?_) (fun c_8 => ?_)
  · skip
    refine lv_iconst (v := nI 1) hx hb dM_model_15 (by decide) ?_
    refine bw_put (own := RM) (ci := 2) (C := RM) (T := TM) (N := 14) (v := .int (nI 1)) (ty := .int) hx hb hts inM tyM tyM_ok nmM hown hE hI hP hS 0 (by decide) rfl rfl 0 (by decide) w_316 rfl rfl ((upd (M 0).1 0 (nI 1), (M 0).2)) rfl (by decide +kernel) rfl rfl (Nat.le_of_ble_eq_true rfl) dM_model_16 (fun M_1 H locs eM_1 hP hS => ?_)
    refine lv_aload_n hx hb dM_model_19 rfl (lv_at hl 0 rfl) ?_
    refine bw_get (own := RM) (ci := 2) (C := RM) (T := TM) (N := 14) (v := .int ((M_1 0).1 0)) hx hb hts inM hown hE hP 0 (by decide) rfl rfl 0 (by decide) w_316 rfl rfl dM_model_20 ?_
    refine ln_asi (nI 1) (by rw [eM_1, va_up_self]; exact m_us) ?_
    refine lv_iconst (v := nI 1) hx hb dM_model_23 (by decide) ?_
    refine ln_icmp_ne (tgt := 29) hx hb dM_model_24 (by decide) (by omega) (by omega) (fun c_24 => ?_) (fun c_24 => ?_)
    · skip
      exact absurd rfl c_24
    · skip
      refine lv_iconst (v := nI 0) hx hb dM_model_27 (by decide) ?_
      exact W.iret (v := nI 0) hx hb hr (fun t ht hW => ⟨⟨_, M_1, rfl, ⟨hC.thr eM_1, Or.inr ⟨hr_5.f c_8, by rw [eM_1, va_up_self]; exact m_us⟩⟩, by show va_P _ _ _ t.heap; rw [ht]; exact hP⟩, hS.F ht⟩) hS.2.2 dM_model_28
  · skip
    refine lv_iconst (v := nI 0) hx hb dM_model_11 (by decide) ?_
    refine lv_goto (tgt := 16) hx hb dM_model_12 (by decide) ?_
    refine bw_put (own := RM) (ci := 2) (C := RM) (T := TM) (N := 14) (v := .int (nI 0)) (ty := .int) hx hb hts inM tyM tyM_ok nmM hown hE hI hP hS 0 (by decide) rfl rfl 0 (by decide) w_316 rfl rfl ((upd (M 0).1 0 (nI 0), (M 0).2)) rfl (by decide +kernel) rfl rfl (Nat.le_of_ble_eq_true rfl) dM_model_16 (fun M_2 H locs eM_2 hP hS => ?_)
    refine lv_aload_n hx hb dM_model_19 rfl (lv_at hl 0 rfl) ?_
    refine bw_get (own := RM) (ci := 2) (C := RM) (T := TM) (N := 14) (v := .int ((M_2 0).1 0)) hx hb hts inM hown hE hP 0 (by decide) rfl rfl 0 (by decide) w_316 rfl rfl dM_model_20 ?_
    refine ln_asi (nI 0) (by rw [eM_2, va_up_self]; exact m_us) ?_
    refine lv_iconst (v := nI 1) hx hb dM_model_23 (by decide) ?_
    refine ln_icmp_ne (tgt := 29) hx hb dM_model_24 (by decide) (by omega) (by omega) (fun c_24 => ?_) (fun c_24 => ?_)
    · skip
      have hp9 : pCell A n i j := hr_5.t c_8
      have hC1 := hC.thr eM_2
      obtain ⟨d, hd, rfl⟩ := rng_lt hp9.1.1 hp9.1.2 (by omega)
      obtain ⟨u, hu, rfl⟩ := rng_lt (a := 3) hp9.2.1.1 hp9.2.1.2 (by decide)
      obtain ⟨v, hv, rfl⟩ := rng_lt (a := 4) hp9.2.2.1 hp9.2.2.2 (by decide)
      refine lv_aload_n hx hb dM_model_29 rfl (lv_at hl 0 rfl) ?_
      refine lv_iload_n hx hb dM_model_30 rfl (lv_at hl 1 rfl) ?_
      refine bc_callv (bc_runV (own := RM) (C := RM) (As := [.int (nI d)]) (rest := []) hx hb (hml.trans hl.1.symm) hown hts (kM_makesModel l D cs ad hI M_2 H.size (aN A) d hN hd (hC1.pok hA)) w_457 w_454 w_456 ws_sel_M_makesModel w_4 ⟨rfl, hd_M_makesModel⟩ rfl ⟨rfl, rfl⟩ ⟨Nat.le_of_ble_eq_true rfl, Nat.le_of_ble_eq_true rfl⟩ (fun _ _ _ _ h => h.calling) (bc_recv (r := (RM, TM, 14)) hE hP 0 (by decide) rfl rfl) (fun U hU hW => ⟨by rw [hU], by rw [hU]; exact hP, hE.warm hW⟩) rfl (Nat.le_of_ble_eq_true rfl) dM_model_31 ⟨Nat.le_of_ble_eq_true rfl, Nat.le_of_ble_eq_true rfl⟩) hS (fun M_3 H locs hr_31 hP hS => ?_)
      have hC2 : Ref A M_3 := hC1.keep (fun q h1 h2 => by rw [hr_31.1 q (by omega)]) (by rw [hr_31.1 0 (by decide)])
      refine lv_aload_n hx hb dM_model_34 rfl (lv_at hl 0 rfl) ?_
      refine bw_get (own := RM) (ci := 2) (C := RM) (T := TM) (N := 14) (v := .ref (ad 7)) hx hb hts inM hown hE hP 0 (by decide) rfl rfl 8 (by decide) w_324 rfl rfl dM_model_35 ?_
      refine lv_iconst (v := nI 4) hx hb dM_model_38 (by decide) ?_
      refine lv_iload_n hx hb dM_model_39 rfl (lv_at hl 2 rfl) ?_
      refine ln_imul hx hb dM_model_40 ?_
      refine lv_iload_n hx hb dM_model_41 rfl (lv_at hl 3 rfl) ?_
      refine ln_iadd hx hb dM_model_42 ?_
      refine ln_lald (L := 12) (g := (M_3 7).2) hx hb hE hP 7 3 (by decide) (rfl) rfl (by omega) (by decide) dM_model_43 ?_
      refine lv_l2i (v := ((M_3 7).2 ((4 * u) + v)).toInt32) hx hb dM_model_44 rfl ?_
      exact W.iret (v := ((M_3 7).2 ((4 * u) + v)).toInt32) hx hb hr (fun t ht hW => ⟨⟨_, M_3, rfl, ⟨hC2, Or.inl ⟨hp9, by rw [hr_31.1 0 (by decide), eM_2, va_up_self]; exact m_us, by rw [nI_clamp (by omega), nI_clamp (by omega), nI_clamp (by omega), hr_31.2 (4 * u + v) (by omega), i_back]; exact hC1.model hA hd hu hv⟩⟩, by show va_P _ _ _ t.heap; rw [ht]; exact hP⟩, hS.F ht⟩) hS.2.2 dM_model_45
    · skip
      exact absurd c_24 (by decide)

theorem seen_1 {par hid : Nat → Int32} {N q r : Nat} {y : Int32} {G : Prop} (hp : pOk par N) (hN : N < 2147483648) (hq : q < N) (hr : r < q) (hpr : par q = nI r) (hy : ¬ y = 0) (hh : hid q = 0) (h : (¬ y = 0 ∧ jopn par hid q = true) ↔ G) : (¬ nI 1 = 0 ∧ jopn par hid r = true) ↔ G := by
  rw [← h, jopn_at hp hN hq hr hpr, hh]
  exact ⟨fun z => ⟨hy, z.2⟩, fun z => ⟨by decide, z.2⟩⟩
theorem seen_0a {par hid : Nat → Int32} {q r : Nat} {y : Int32} {G : Prop} (hy : y = 0) (h : (¬ y = 0 ∧ jopn par hid q = true) ↔ G) : (¬ nI 0 = 0 ∧ jopn par hid r = true) ↔ G := by
  rw [← h]
  exact ⟨fun z => absurd rfl z.1, fun z => absurd hy z.1⟩
theorem seen_0b {par hid : Nat → Int32} {N q r : Nat} {y : Int32} {G : Prop} (hp : pOk par N) (hN : N < 2147483648) (hq : q < N) (hr : r < q) (hpr : par q = nI r) (hh : ¬ hid q = 0) (h : (¬ y = 0 ∧ jopn par hid q = true) ↔ G) : (¬ nI 0 = 0 ∧ jopn par hid r = true) ↔ G := by
  rw [← h, jopn_at hp hN hq hr hpr, beq_eq_false_iff_ne.mpr hh]
  exact ⟨fun z => absurd rfl z.1, fun z => absurd z.2 (by simp)⟩
theorem seen_r1 {par hid : Nat → Int32} {q : Nat} {y : Int32} {G : Prop} (hneg : par q < 0) (hy : ¬ y = 0) (hh : hid q = 0) (h : (¬ y = 0 ∧ jopn par hid q = true) ↔ G) : jb G (nI 1) := jb.one (h.mp ⟨hy, by rw [jopn_root hneg, hh]; rfl⟩)
theorem seen_r0 {par hid : Nat → Int32} {q : Nat} {y : Int32} {G : Prop} (hneg : par q < 0) (hyh : y = 0 ∨ ¬ hid q = 0) (h : (¬ y = 0 ∧ jopn par hid q = true) ↔ G) : jb G (nI 0) := jb.zero (fun g => by
  have z := h.mpr g
  rw [jopn_root hneg] at z
  rcases hyh with k | k
  · exact z.1 k
  · exact k (by simpa using z.2))

set_option maxHeartbeats 4000000 in
set_option maxRecDepth 100000 in
theorem kM_isSeen (l : Launch) (D : va_G) (cs : Nat → ClassId) (ad : Nat → Nat) (hI : bw_I ad 13) (M : Nat → mRow) (sz : Nat) (N d : Nat) (hN : N ≤ 48) (hd : d < N) (hp : pOk (M 1).1 N)  : Met l yM_isSeen (wc yM_isSeen cM_isSeen 4 (some .boolean)) ({ frames := 0, cells := 0, slots := 0, locals := 0 } : Room) (va_Pc [.ref (ad 0), .int (nI d)] (mP D cs ad M sz)) (vp_Si (jb (0 < (M 2).1 d ∧ jopn (M 1).1 (M 3).1 d = true))) 0 0 (fun _ => False) := by
  refine Met.ofW (cc := cM_isSeen) (maxL := 4) (ret := (some .boolean)) (by decide +kernel) rfl ?_
  intro p e s m args below meth c s₁ B hml hv
  obtain ⟨rfl, hsz, hP, hE⟩ := hv
  subst hsz
  have hx := B.exec
  have hb := B.bytes
  have hr := B.returns
  have hts : ∀ w9 ∈ ws_all, w9.before ([.ref (ad 0), .int (nI d)] : List Value).toArray s = true := fun w9 h => atoms_spec (ws := (wc yM_isSeen cM_isSeen 4 (some .boolean))) B.pre w9 (List.mem_cons_of_mem _ h)
  have hown : s.vm.findClass RM = some m.cls := findClass_of_methodNamed B.named
  have hlocks := B.notSynchronized
  have hl := lv_entry ([.ref (ad 0), .int (nI d)]) (n := 4) (Nat.le_of_ble_eq_true rfl)
  rw [lg_entry_eq]
  generalize (lg_sl ([.ref (ad 0), .int (nI d)]) ++ List.replicate (4 - (lg_sl ([.ref (ad 0), .int (nI d)])).length) Slot.unset).toArray = ls at hl ⊢
  have hl : lv_has ls 4 [(0, .ref (ad 0)), (1, .int (nI d))] := hl
  have loop : ∀ kf : Nat, (∀ (q : Nat) (y : Int32) (ls : Array Slot), (q < N) → (y = 0 ∨ y = nI 1) → ((¬ y = 0 ∧ jopn (M 1).1 (M 3).1 q = true) ↔ (0 < (M 2).1 d ∧ jopn (M 1).1 (M 3).1 d = true)) → q < kf → lv_has ls 4 [(3, .int (nI q)), (0, .ref (ad 0)), (1, .int (nI d)), (2, .int y)] → W p l e (headSpec (wc yM_isSeen cM_isSeen 4 (some .boolean)) ({ frames := 0, cells := 0, slots := 0, locals := 0 } : Room)).room s m ([.ref (ad 0), .int (nI d)] : List Value).toArray below meth c s.heap [] 0 0 (MQ below (vp_Si (jb (0 < (M 2).1 d ∧ jopn (M 1).1 (M 3).1 d = true))) ([.ref (ad 0), .int (nI d)] : List Value).toArray s 0 0 (fun _ => False)) (F0 m 17 ls [])) := by
    intro kf
    induction kf with
    | zero => exact by intros; omega
    | succ kf ih =>
      intro q y  ls hq hy hyq hmu hl
      refine lv_iload_n hx hb dM_isSeen_17 rfl (lv_at hl 0 rfl) ?_
      refine ln_if_lt (tgt := 50) hx hb dM_isSeen_18 (by decide) (by omega) ?_
      refine lv_iload_n hx hb dM_isSeen_21 rfl (lv_at hl 3 rfl) ?_
      refine lv_if_eq (tgt := 38) hx hb dM_isSeen_22 (by decide) (fun c_22 => ?_) (fun c_22 => ?_)
      · skip
        refine lv_iconst (v := nI 0) hx hb dM_isSeen_38 (by decide) ?_
        refine lv_istore_n (lv' := [(2, .int (nI 0)), (3, .int (nI q)), (0, .ref (ad 0)), (1, .int (nI d))]) hx hb dM_isSeen_39 rfl hl (by decide) rfl (fun ls hl => ?_)
        refine lv_aload_n hx hb dM_isSeen_40 rfl (lv_at hl 2 rfl) ?_
        refine bw_get (own := RM) (ci := 2) (C := RM) (T := TM) (N := 14) (v := .ref (ad 1)) hx hb hts inM hown hE hP 0 (by decide) rfl rfl 2 (by decide) w_318 rfl rfl dM_isSeen_41 ?_
        refine lv_iload_n hx hb dM_isSeen_44 rfl (lv_at hl 1 rfl) ?_
        refine ln_iald (L := 48) (g := (M 1).1) hx hb hE hP 1 0 (by decide) (rfl) rfl (by omega) (by decide) dM_isSeen_45 ?_
        rcases hp q hq with hneg | ⟨r, hr, hpr⟩
        · skip
          refine lv_istore_n (lv' := [(3, .int ((M 1).1 q)), (2, .int (nI 0)), (0, .ref (ad 0)), (1, .int (nI d))]) hx hb dM_isSeen_46 rfl hl (by decide) rfl (fun ls hl => ?_)
          refine lv_goto (tgt := 17) hx hb dM_isSeen_47 (by decide) ?_
          refine lv_iload_n hx hb dM_isSeen_17 rfl (lv_at hl 0 rfl) ?_
          refine lv_if_lt (tgt := 50) hx hb dM_isSeen_18 (by decide) (fun c_18 => ?_) (fun c_18 => ?_)
          · skip
            refine lv_iload_n hx hb dM_isSeen_50 rfl (lv_at hl 1 rfl) ?_
            exact W.zret (v := nI 0) (ty := .boolean) hx hb hr (by decide) (fun t ht hW => ⟨_, rfl, seen_r0 hneg (Or.inl c_22) hyq, ht⟩) (fun _ h => nomatch h) dM_isSeen_51
          · skip
            exact absurd hneg c_18
        · skip
          refine ln_asi (nI r) (by exact hpr) ?_
          refine lv_istore_n (lv' := [(3, .int (nI r)), (2, .int (nI 0)), (0, .ref (ad 0)), (1, .int (nI d))]) hx hb dM_isSeen_46 rfl hl (by decide) rfl (fun ls hl => ?_)
          refine lv_goto (tgt := 17) hx hb dM_isSeen_47 (by decide) ?_
          exact ih r (nI 0)  ls (by omega) (Or.inl rfl) (seen_0a c_22 hyq) (by omega) (lv_sub hl [0, 2, 3, 1] rfl)
      · skip
        refine lv_aload_n hx hb dM_isSeen_25 rfl (lv_at hl 1 rfl) ?_
        refine bw_get (own := RM) (ci := 2) (C := RM) (T := TM) (N := 14) (v := .ref (ad 3)) hx hb hts inM hown hE hP 0 (by decide) rfl rfl 4 (by decide) w_320 rfl rfl dM_isSeen_26 ?_
        refine lv_iload_n hx hb dM_isSeen_29 rfl (lv_at hl 0 rfl) ?_
        refine ln_zald (L := 48) (g := (M 3).1) hx hb hE hP 3 1 (by decide) (rfl) rfl (by omega) (by decide) dM_isSeen_30 ?_
        refine lv_if_ne (tgt := 38) hx hb dM_isSeen_31 (by decide) (fun c_31 => ?_) (fun c_31 => ?_)
        · skip
          refine lv_iconst (v := nI 0) hx hb dM_isSeen_38 (by decide) ?_
          refine lv_istore_n (lv' := [(2, .int (nI 0)), (3, .int (nI q)), (0, .ref (ad 0)), (1, .int (nI d))]) hx hb dM_isSeen_39 rfl hl (by decide) rfl (fun ls hl => ?_)
          refine lv_aload_n hx hb dM_isSeen_40 rfl (lv_at hl 2 rfl) ?_
          refine bw_get (own := RM) (ci := 2) (C := RM) (T := TM) (N := 14) (v := .ref (ad 1)) hx hb hts inM hown hE hP 0 (by decide) rfl rfl 2 (by decide) w_318 rfl rfl dM_isSeen_41 ?_
          refine lv_iload_n hx hb dM_isSeen_44 rfl (lv_at hl 1 rfl) ?_
          refine ln_iald (L := 48) (g := (M 1).1) hx hb hE hP 1 0 (by decide) (rfl) rfl (by omega) (by decide) dM_isSeen_45 ?_
          rcases hp q hq with hneg | ⟨r, hr, hpr⟩
          · skip
            refine lv_istore_n (lv' := [(3, .int ((M 1).1 q)), (2, .int (nI 0)), (0, .ref (ad 0)), (1, .int (nI d))]) hx hb dM_isSeen_46 rfl hl (by decide) rfl (fun ls hl => ?_)
            refine lv_goto (tgt := 17) hx hb dM_isSeen_47 (by decide) ?_
            refine lv_iload_n hx hb dM_isSeen_17 rfl (lv_at hl 0 rfl) ?_
            refine lv_if_lt (tgt := 50) hx hb dM_isSeen_18 (by decide) (fun c_18 => ?_) (fun c_18 => ?_)
            · skip
              refine lv_iload_n hx hb dM_isSeen_50 rfl (lv_at hl 1 rfl) ?_
              exact W.zret (v := nI 0) (ty := .boolean) hx hb hr (by decide) (fun t ht hW => ⟨_, rfl, seen_r0 hneg (Or.inr c_31) hyq, ht⟩) (fun _ h => nomatch h) dM_isSeen_51
            · skip
              exact absurd hneg c_18
          · skip
            refine ln_asi (nI r) (by exact hpr) ?_
            refine lv_istore_n (lv' := [(3, .int (nI r)), (2, .int (nI 0)), (0, .ref (ad 0)), (1, .int (nI d))]) hx hb dM_isSeen_46 rfl hl (by decide) rfl (fun ls hl => ?_)
            refine lv_goto (tgt := 17) hx hb dM_isSeen_47 (by decide) ?_
            exact ih r (nI 0)  ls (by omega) (Or.inl rfl) (seen_0b hp (by omega) hq hr hpr c_31 hyq) (by omega) (lv_sub hl [0, 2, 3, 1] rfl)
        · skip
          refine lv_iconst (v := nI 1) hx hb dM_isSeen_34 (by decide) ?_
          refine lv_goto (tgt := 39) hx hb dM_isSeen_35 (by decide) ?_
          refine lv_istore_n (lv' := [(2, .int (nI 1)), (3, .int (nI q)), (0, .ref (ad 0)), (1, .int (nI d))]) hx hb dM_isSeen_39 rfl hl (by decide) rfl (fun ls hl => ?_)
          refine lv_aload_n hx hb dM_isSeen_40 rfl (lv_at hl 2 rfl) ?_
          refine bw_get (own := RM) (ci := 2) (C := RM) (T := TM) (N := 14) (v := .ref (ad 1)) hx hb hts inM hown hE hP 0 (by decide) rfl rfl 2 (by decide) w_318 rfl rfl dM_isSeen_41 ?_
          refine lv_iload_n hx hb dM_isSeen_44 rfl (lv_at hl 1 rfl) ?_
          refine ln_iald (L := 48) (g := (M 1).1) hx hb hE hP 1 0 (by decide) (rfl) rfl (by omega) (by decide) dM_isSeen_45 ?_
          rcases hp q hq with hneg | ⟨r, hr, hpr⟩
          · skip
            refine lv_istore_n (lv' := [(3, .int ((M 1).1 q)), (2, .int (nI 1)), (0, .ref (ad 0)), (1, .int (nI d))]) hx hb dM_isSeen_46 rfl hl (by decide) rfl (fun ls hl => ?_)
            refine lv_goto (tgt := 17) hx hb dM_isSeen_47 (by decide) ?_
            refine lv_iload_n hx hb dM_isSeen_17 rfl (lv_at hl 0 rfl) ?_
            refine lv_if_lt (tgt := 50) hx hb dM_isSeen_18 (by decide) (fun c_18 => ?_) (fun c_18 => ?_)
            · skip
              refine lv_iload_n hx hb dM_isSeen_50 rfl (lv_at hl 1 rfl) ?_
              exact W.zret (v := nI 1) (ty := .boolean) hx hb hr (by decide) (fun t ht hW => ⟨_, rfl, seen_r1 hneg c_22 c_31 hyq, ht⟩) (fun _ h => nomatch h) dM_isSeen_51
            · skip
              exact absurd hneg c_18
          · skip
            refine ln_asi (nI r) (by exact hpr) ?_
            refine lv_istore_n (lv' := [(3, .int (nI r)), (2, .int (nI 1)), (0, .ref (ad 0)), (1, .int (nI d))]) hx hb dM_isSeen_46 rfl hl (by decide) rfl (fun ls hl => ?_)
            refine lv_goto (tgt := 17) hx hb dM_isSeen_47 (by decide) ?_
            exact ih r (nI 1)  ls (by omega) (Or.inr rfl) (seen_1 hp (by omega) hq hr hpr c_22 c_31 hyq) (by omega) (lv_sub hl [0, 2, 3, 1] rfl)
  refine lv_aload_n hx hb dM_isSeen_0 rfl (lv_at hl 0 rfl) ?_
  refine bw_get (own := RM) (ci := 2) (C := RM) (T := TM) (N := 14) (v := .ref (ad 2)) hx hb hts inM hown hE hP 0 (by decide) rfl rfl 3 (by decide) w_319 rfl rfl dM_isSeen_1 ?_
  refine lv_iload_n hx hb dM_isSeen_4 rfl (lv_at hl 1 rfl) ?_
  refine ln_iald (L := 48) (g := (M 2).1) hx hb hE hP 2 0 (by decide) (rfl) rfl (by omega) (by decide) dM_isSeen_5 ?_
  refine lv_if_le (tgt := 13) hx hb dM_isSeen_6 (by decide) (fun c_6 => ?_) (fun c_6 => ?_)
  · skip
    refine lv_iconst (v := nI 0) hx hb dM_isSeen_13 (by decide) ?_
    refine lv_istore_n (lv' := [(2, .int (nI 0)), (0, .ref (ad 0)), (1, .int (nI d))]) hx hb dM_isSeen_14 rfl hl (by decide) rfl (fun ls hl => ?_)
    refine lv_iload_n hx hb dM_isSeen_15 rfl (lv_at hl 2 rfl) ?_
    refine lv_istore_n (lv' := [(3, .int (nI d)), (2, .int (nI 0)), (0, .ref (ad 0)), (1, .int (nI d))]) hx hb dM_isSeen_16 rfl hl (by decide) rfl (fun ls hl => ?_)
    exact (loop 100000) d (nI 0)  ls (hd) (Or.inl rfl) (⟨fun h => absurd rfl h.1, fun h => absurd h.1 (by simp only [Int32.lt_iff_toInt_lt, Int32.le_iff_toInt_le, nI, Int32.reduceOfNat, Int32.reduceToInt] at c_6 ⊢; omega)⟩) (by omega) (lv_sub hl [0, 2, 3, 1] rfl)
  · skip
    refine lv_iconst (v := nI 1) hx hb dM_isSeen_9 (by decide) ?_
    refine lv_goto (tgt := 14) hx hb dM_isSeen_10 (by decide) ?_
    refine lv_istore_n (lv' := [(2, .int (nI 1)), (0, .ref (ad 0)), (1, .int (nI d))]) hx hb dM_isSeen_14 rfl hl (by decide) rfl (fun ls hl => ?_)
    refine lv_iload_n hx hb dM_isSeen_15 rfl (lv_at hl 2 rfl) ?_
    refine lv_istore_n (lv' := [(3, .int (nI d)), (2, .int (nI 1)), (0, .ref (ad 0)), (1, .int (nI d))]) hx hb dM_isSeen_16 rfl hl (by decide) rfl (fun ls hl => ?_)
    exact (loop 100000) d (nI 1)  ls (hd) (Or.inr rfl) (⟨fun h => ⟨by simp only [Int32.lt_iff_toInt_lt, Int32.le_iff_toInt_le, nI, Int32.reduceOfNat, Int32.reduceToInt] at c_6 ⊢; omega, h.2⟩, fun h => ⟨by decide, h.2⟩⟩) (by omega) (lv_sub hl [0, 2, 3, 1] rfl)

set_option maxHeartbeats 4000000 in
set_option maxRecDepth 100000 in
theorem kM_isBefore (l : Launch) (D : va_G) (cs : Nat → ClassId) (ad : Nat → Nat) (hI : bw_I ad 13) (M : Nat → mRow) (sz : Nat) (a b : Nat) (ha : a < 48) (hb0 : b < 48)  : Met l yM_isBefore (wc yM_isBefore cM_isBefore 3 (some .boolean)) ({ frames := 0, cells := 0, slots := 0, locals := 0 } : Room) (va_Pc [.ref (ad 0), .int (nI a), .int (nI b)] (mP D cs ad M sz)) (vp_Si (jb (rbef (M 2).1 (M 6).2 a b))) 0 0 (fun _ => False) := by
  refine Met.ofW (cc := cM_isBefore) (maxL := 3) (ret := (some .boolean)) (by decide +kernel) rfl ?_
  intro p e s m args below meth c s₁ B hml hv
  obtain ⟨rfl, hsz, hP, hE⟩ := hv
  subst hsz
  have hx := B.exec
  have hb := B.bytes
  have hr := B.returns
  have hts : ∀ w9 ∈ ws_all, w9.before ([.ref (ad 0), .int (nI a), .int (nI b)] : List Value).toArray s = true := fun w9 h => atoms_spec (ws := (wc yM_isBefore cM_isBefore 3 (some .boolean))) B.pre w9 (List.mem_cons_of_mem _ h)
  have hown : s.vm.findClass RM = some m.cls := findClass_of_methodNamed B.named
  have hlocks := B.notSynchronized
  have hl := lv_entry ([.ref (ad 0), .int (nI a), .int (nI b)]) (n := 3) (Nat.le_of_ble_eq_true rfl)
  rw [lg_entry_eq]
  generalize (lg_sl ([.ref (ad 0), .int (nI a), .int (nI b)]) ++ List.replicate (3 - (lg_sl ([.ref (ad 0), .int (nI a), .int (nI b)])).length) Slot.unset).toArray = ls at hl ⊢
  have hl : lv_has ls 3 [(0, .ref (ad 0)), (1, .int (nI a)), (2, .int (nI b))] := hl
  refine lv_aload_n hx hb dM_isBefore_0 rfl (lv_at hl 0 rfl) ?_
  refine bw_get (own := RM) (ci := 2) (C := RM) (T := TM) (N := 14) (v := .ref (ad 2)) hx hb hts inM hown hE hP 0 (by decide) rfl rfl 3 (by decide) w_319 rfl rfl dM_isBefore_1 ?_
  refine lv_iload_n hx hb dM_isBefore_4 rfl (lv_at hl 1 rfl) ?_
  refine ln_iald (L := 48) (g := (M 2).1) hx hb hE hP 2 0 (by decide) (rfl) rfl (by omega) (by decide) dM_isBefore_5 ?_
  refine lv_aload_n hx hb dM_isBefore_6 rfl (lv_at hl 0 rfl) ?_
  refine bw_get (own := RM) (ci := 2) (C := RM) (T := TM) (N := 14) (v := .ref (ad 2)) hx hb hts inM hown hE hP 0 (by decide) rfl rfl 3 (by decide) w_319 rfl rfl dM_isBefore_7 ?_
  refine lv_iload_n hx hb dM_isBefore_10 rfl (lv_at hl 2 rfl) ?_
  refine ln_iald (L := 48) (g := (M 2).1) hx hb hE hP 2 0 (by decide) (rfl) rfl (by omega) (by decide) dM_isBefore_11 ?_
  refine lv_icmp_eq (tgt := 36) hx hb dM_isBefore_12 (by decide) (fun c_12 => ?_) (fun c_12 => ?_)
  · skip
    refine lv_aload_n hx hb dM_isBefore_36 rfl (lv_at hl 0 rfl) ?_
    refine bw_get (own := RM) (ci := 2) (C := RM) (T := TM) (N := 14) (v := .ref (ad 6)) hx hb hts inM hown hE hP 0 (by decide) rfl rfl 7 (by decide) w_323 rfl rfl dM_isBefore_37 ?_
    refine lv_iload_n hx hb dM_isBefore_40 rfl (lv_at hl 1 rfl) ?_
    refine ln_lald (L := 48) (g := (M 6).2) hx hb hE hP 6 3 (by decide) (rfl) rfl (by omega) (by decide) dM_isBefore_41 ?_
    refine lv_aload_n hx hb dM_isBefore_42 rfl (lv_at hl 0 rfl) ?_
    refine bw_get (own := RM) (ci := 2) (C := RM) (T := TM) (N := 14) (v := .ref (ad 6)) hx hb hts inM hown hE hP 0 (by decide) rfl rfl 7 (by decide) w_323 rfl rfl dM_isBefore_43 ?_
    refine lv_iload_n hx hb dM_isBefore_46 rfl (lv_at hl 2 rfl) ?_
    refine ln_lald (L := 48) (g := (M 6).2) hx hb hE hP 6 3 (by decide) (rfl) rfl (by omega) (by decide) dM_isBefore_47 ?_
    refine W.lcmp hx hb dM_isBefore_48 ?_
    refine lv_if_eq (tgt := 108) hx hb dM_isBefore_49 (by decide) (fun c_49 => ?_) (fun c_49 => ?_)
    · skip
      refine lv_iload_n hx hb dM_isBefore_108 rfl (lv_at hl 1 rfl) ?_
      refine lv_iload_n hx hb dM_isBefore_109 rfl (lv_at hl 2 rfl) ?_
      refine ln_icmp_ge (tgt := 117) hx hb dM_isBefore_110 (by decide) (by omega) (by omega) (fun c_110 => ?_) (fun c_110 => ?_)
      · skip
        refine lv_iconst (v := nI 0) hx hb dM_isBefore_117 (by decide) ?_
        exact W.zret (v := nI 0) (ty := .boolean) hx hb hr (by decide) (fun t ht hW => ⟨_, rfl, jb.zero (by unfold rbef; rw [if_pos c_12, if_pos ((lg_cmp_eq _ _).mp c_49)]; omega), ht⟩) (fun _ h => nomatch h) dM_isBefore_118
      · skip
        refine lv_iconst (v := nI 1) hx hb dM_isBefore_113 (by decide) ?_
        refine lv_goto (tgt := 118) hx hb dM_isBefore_114 (by decide) ?_
        exact W.zret (v := nI 1) (ty := .boolean) hx hb hr (by decide) (fun t ht hW => ⟨_, rfl, jb.one (by unfold rbef; rw [if_pos c_12, if_pos ((lg_cmp_eq _ _).mp c_49)]; omega), ht⟩) (fun _ h => nomatch h) dM_isBefore_118
    · skip
      refine lv_aload_n hx hb dM_isBefore_52 rfl (lv_at hl 0 rfl) ?_
      refine bw_get (own := RM) (ci := 2) (C := RM) (T := TM) (N := 14) (v := .ref (ad 2)) hx hb hts inM hown hE hP 0 (by decide) rfl rfl 3 (by decide) w_319 rfl rfl dM_isBefore_53 ?_
      refine lv_iload_n hx hb dM_isBefore_56 rfl (lv_at hl 1 rfl) ?_
      refine ln_iald (L := 48) (g := (M 2).1) hx hb hE hP 2 0 (by decide) (rfl) rfl (by omega) (by decide) dM_isBefore_57 ?_
      refine lv_iconst (v := nI 1) hx hb dM_isBefore_58 (by decide) ?_
      refine lv_icmp_ne (tgt := 86) hx hb dM_isBefore_59 (by decide) (fun c_59 => ?_) (fun c_59 => ?_)
      · skip
        refine lv_aload_n hx hb dM_isBefore_86 rfl (lv_at hl 0 rfl) ?_
        refine bw_get (own := RM) (ci := 2) (C := RM) (T := TM) (N := 14) (v := .ref (ad 6)) hx hb hts inM hown hE hP 0 (by decide) rfl rfl 7 (by decide) w_323 rfl rfl dM_isBefore_87 ?_
        refine lv_iload_n hx hb dM_isBefore_90 rfl (lv_at hl 1 rfl) ?_
        refine ln_lald (L := 48) (g := (M 6).2) hx hb hE hP 6 3 (by decide) (rfl) rfl (by omega) (by decide) dM_isBefore_91 ?_
        refine lv_aload_n hx hb dM_isBefore_92 rfl (lv_at hl 0 rfl) ?_
        refine bw_get (own := RM) (ci := 2) (C := RM) (T := TM) (N := 14) (v := .ref (ad 6)) hx hb hts inM hown hE hP 0 (by decide) rfl rfl 7 (by decide) w_323 rfl rfl dM_isBefore_93 ?_
        refine lv_iload_n hx hb dM_isBefore_96 rfl (lv_at hl 2 rfl) ?_
        refine ln_lald (L := 48) (g := (M 6).2) hx hb hE hP 6 3 (by decide) (rfl) rfl (by omega) (by decide) dM_isBefore_97 ?_
        refine W.lcmp hx hb dM_isBefore_98 ?_
        refine lv_if_le (tgt := 106) hx hb dM_isBefore_99 (by decide) (fun c_99 => ?_) (fun c_99 => ?_)
        · skip
          refine lv_iconst (v := nI 0) hx hb dM_isBefore_106 (by decide) ?_
          exact W.zret (v := nI 0) (ty := .boolean) hx hb hr (by decide) (fun t ht hW => ⟨_, rfl, jb.zero (by unfold rbef; rw [if_pos c_12, if_neg (fun z => c_49 ((lg_cmp_eq _ _).mpr z)), if_neg c_59]; simp only [lg_cmp_ge, lg_cmp_le, Int64.lt_iff_toInt_lt, Int64.le_iff_toInt_le] at c_99 ⊢; omega), ht⟩) (fun _ h => nomatch h) dM_isBefore_107
        · skip
          refine lv_iconst (v := nI 1) hx hb dM_isBefore_102 (by decide) ?_
          refine lv_goto (tgt := 107) hx hb dM_isBefore_103 (by decide) ?_
          exact W.zret (v := nI 1) (ty := .boolean) hx hb hr (by decide) (fun t ht hW => ⟨_, rfl, jb.one (by unfold rbef; rw [if_pos c_12, if_neg (fun z => c_49 ((lg_cmp_eq _ _).mpr z)), if_neg c_59]; simp only [lg_cmp_ge, lg_cmp_le, Int64.lt_iff_toInt_lt, Int64.le_iff_toInt_le] at c_99 ⊢; omega), ht⟩) (fun _ h => nomatch h) dM_isBefore_107
      · skip
        refine lv_aload_n hx hb dM_isBefore_62 rfl (lv_at hl 0 rfl) ?_
        refine bw_get (own := RM) (ci := 2) (C := RM) (T := TM) (N := 14) (v := .ref (ad 6)) hx hb hts inM hown hE hP 0 (by decide) rfl rfl 7 (by decide) w_323 rfl rfl dM_isBefore_63 ?_
        refine lv_iload_n hx hb dM_isBefore_66 rfl (lv_at hl 1 rfl) ?_
        refine ln_lald (L := 48) (g := (M 6).2) hx hb hE hP 6 3 (by decide) (rfl) rfl (by omega) (by decide) dM_isBefore_67 ?_
        refine lv_aload_n hx hb dM_isBefore_68 rfl (lv_at hl 0 rfl) ?_
        refine bw_get (own := RM) (ci := 2) (C := RM) (T := TM) (N := 14) (v := .ref (ad 6)) hx hb hts inM hown hE hP 0 (by decide) rfl rfl 7 (by decide) w_323 rfl rfl dM_isBefore_69 ?_
        refine lv_iload_n hx hb dM_isBefore_72 rfl (lv_at hl 2 rfl) ?_
        refine ln_lald (L := 48) (g := (M 6).2) hx hb hE hP 6 3 (by decide) (rfl) rfl (by omega) (by decide) dM_isBefore_73 ?_
        refine W.lcmp hx hb dM_isBefore_74 ?_
        refine lv_if_ge (tgt := 82) hx hb dM_isBefore_75 (by decide) (fun c_75 => ?_) (fun c_75 => ?_)
        · skip
          refine lv_iconst (v := nI 0) hx hb dM_isBefore_82 (by decide) ?_
          refine lv_goto (tgt := 107) hx hb dM_isBefore_83 (by decide) ?_
          exact W.zret (v := nI 0) (ty := .boolean) hx hb hr (by decide) (fun t ht hW => ⟨_, rfl, jb.zero (by unfold rbef; rw [if_pos c_12, if_neg (fun z => c_49 ((lg_cmp_eq _ _).mpr z)), if_pos c_59]; simp only [lg_cmp_ge, lg_cmp_le, Int64.lt_iff_toInt_lt, Int64.le_iff_toInt_le] at c_75 ⊢; omega), ht⟩) (fun _ h => nomatch h) dM_isBefore_107
        · skip
          refine lv_iconst (v := nI 1) hx hb dM_isBefore_78 (by decide) ?_
          refine lv_goto (tgt := 107) hx hb dM_isBefore_79 (by decide) ?_
          exact W.zret (v := nI 1) (ty := .boolean) hx hb hr (by decide) (fun t ht hW => ⟨_, rfl, jb.one (by unfold rbef; rw [if_pos c_12, if_neg (fun z => c_49 ((lg_cmp_eq _ _).mpr z)), if_pos c_59]; simp only [lg_cmp_ge, lg_cmp_le, Int64.lt_iff_toInt_lt, Int64.le_iff_toInt_le] at c_75 ⊢; omega), ht⟩) (fun _ h => nomatch h) dM_isBefore_107
  · skip
    refine lv_aload_n hx hb dM_isBefore_15 rfl (lv_at hl 0 rfl) ?_
    refine bw_get (own := RM) (ci := 2) (C := RM) (T := TM) (N := 14) (v := .ref (ad 2)) hx hb hts inM hown hE hP 0 (by decide) rfl rfl 3 (by decide) w_319 rfl rfl dM_isBefore_16 ?_
    refine lv_iload_n hx hb dM_isBefore_19 rfl (lv_at hl 1 rfl) ?_
    refine ln_iald (L := 48) (g := (M 2).1) hx hb hE hP 2 0 (by decide) (rfl) rfl (by omega) (by decide) dM_isBefore_20 ?_
    refine lv_aload_n hx hb dM_isBefore_21 rfl (lv_at hl 0 rfl) ?_
    refine bw_get (own := RM) (ci := 2) (C := RM) (T := TM) (N := 14) (v := .ref (ad 2)) hx hb hts inM hown hE hP 0 (by decide) rfl rfl 3 (by decide) w_319 rfl rfl dM_isBefore_22 ?_
    refine lv_iload_n hx hb dM_isBefore_25 rfl (lv_at hl 2 rfl) ?_
    refine ln_iald (L := 48) (g := (M 2).1) hx hb hE hP 2 0 (by decide) (rfl) rfl (by omega) (by decide) dM_isBefore_26 ?_
    refine lv_icmp_ge (tgt := 34) hx hb dM_isBefore_27 (by decide) (fun c_27 => ?_) (fun c_27 => ?_)
    · skip
      refine lv_iconst (v := nI 0) hx hb dM_isBefore_34 (by decide) ?_
      exact W.zret (v := nI 0) (ty := .boolean) hx hb hr (by decide) (fun t ht hW => ⟨_, rfl, jb.zero (by unfold rbef; rw [if_neg c_12]; simp only [Int32.lt_iff_toInt_lt, Int32.le_iff_toInt_le] at c_27 ⊢; omega), ht⟩) (fun _ h => nomatch h) dM_isBefore_35
    · skip
      refine lv_iconst (v := nI 1) hx hb dM_isBefore_30 (by decide) ?_
      refine lv_goto (tgt := 35) hx hb dM_isBefore_31 (by decide) ?_
      exact W.zret (v := nI 1) (ty := .boolean) hx hb hr (by decide) (fun t ht hW => ⟨_, rfl, jb.one (by unfold rbef; rw [if_neg c_12]; simp only [Int32.lt_iff_toInt_lt, Int32.le_iff_toInt_le] at c_27 ⊢; omega), ht⟩) (fun _ h => nomatch h) dM_isBefore_35
