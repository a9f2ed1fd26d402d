/-! THE REFERENCE: seen, inOrder, about -/
theorem cbB_succ (A : Ab) (d e : Nat) : cbB A d (e + 1) = cbB A d e + (if (sawB A e && bfB A e d) = true then 1 else 0) := rfl

set_option maxHeartbeats 4000000 in
set_option maxRecDepth 100000 in
theorem kM_seen (l : Launch) (D : va_G) (cs : Nat → ClassId) (ad : Nat → Nat) (hI : bw_I ad 13) (M : Nat → mRow) (sz : Nat) (A : Ab) (hA : aOk A) (hC : Ref A M)  : Met l yM_seen (wc yM_seen cM_seen 3 (some .int)) ({ frames := 1, cells := 0, slots := 0, locals := 23 } : Room) (va_Pc [.ref (ad 0)] (mP D cs ad M sz)) (bQi D ad 13 (mc_cell cs ad) sz (fun r M1 => r = nI (cntB (sawB A) (aN A)) ∧ Ref A M1)) 0 0 (bw_A ad 13 sz) := by
  refine Met.ofW (cc := cM_seen) (maxL := 3) (ret := (some .int)) (by decide +kernel) rfl ?_
  intro p e s m args below meth c s₁ B hml hv
  obtain ⟨rfl, hsz, hP, hE⟩ := hv
  subst hsz
  have hx := B.exec
  have hb := B.bytes
  have hr := B.returns
  have hts : ∀ w9 ∈ ws_all, w9.before ([.ref (ad 0)] : List Value).toArray s = true := fun w9 h => atoms_spec (ws := (wc yM_seen cM_seen 3 (some .int))) B.pre w9 (List.mem_cons_of_mem _ h)
  have hown : s.vm.findClass RM = some m.cls := findClass_of_methodNamed B.named
  have hlocks := B.notSynchronized
  have hS : va_S (bw_A ad 13 s.heap.size) s.heap s.heap [] := va_S.rf
  have hl := lv_entry ([.ref (ad 0)]) (n := 3) (Nat.le_of_ble_eq_true rfl)
  rw [lg_entry_eq]
  generalize (lg_sl ([.ref (ad 0)]) ++ List.replicate (3 - (lg_sl ([.ref (ad 0)])).length) Slot.unset).toArray = ls at hl ⊢
  have hl : lv_has ls 3 [(0, .ref (ad 0))] := hl
  have hN : aN A ≤ 48 := hA.1
  obtain ⟨hn, hrow, heye⟩ := id hC
  refine lv_aload_n hx hb dM_seen_0 rfl (lv_at hl 0 rfl) ?_
  refine lv_iconst (v := nI 0) hx hb dM_seen_1 (by decide) ?_
  refine bw_put (own := RM) (ci := 2) (C := RM) (T := TM) (N := 14) (v := .int (nI 0)) (ty := .int) hx hb hts inM tyM tyM_ok nmM hown hE hI hP hS 0 (by decide) rfl rfl 0 (by decide) w_316 rfl rfl ((upd (M 0).1 0 (nI 0), (M 0).2)) rfl (by decide +kernel) rfl rfl (Nat.le_of_ble_eq_true rfl) dM_seen_2 (fun M_1 H locs eM_1 hP hS => ?_)
  refine lv_iconst (v := nI 0) hx hb dM_seen_5 (by decide) ?_
  refine lv_istore_n (lv' := [(1, .int (nI 0)), (0, .ref (ad 0))]) hx hb dM_seen_6 rfl hl (by decide) rfl (fun ls hl => ?_)
  refine lv_iconst (v := nI 0) hx hb dM_seen_7 (by decide) ?_
  refine lv_istore_n (lv' := [(2, .int (nI 0)), (1, .int (nI 0)), (0, .ref (ad 0))]) hx hb dM_seen_8 rfl hl (by decide) rfl (fun ls hl => ?_)
  have loop : ∀ kf : Nat, (∀ (z : Nat) (d : Nat)  (M1 : Nat → mRow) (H : Heap) (locs : List Loc) (ls : Array Slot), (d ≤ aN A) → (Ref A M1 ∧ z = cntB (sawB A) d) → aN A - d < kf → va_P D cls3 (bw ad 13 (fun j => mc_cell cs ad j (M1 j))) H → va_S (bw_A ad 13 s.heap.size) s.heap H locs → lv_has ls 3 [(1, .int (nI z)), (2, .int (nI d)), (0, .ref (ad 0))] → W p l e (headSpec (wc yM_seen cM_seen 3 (some .int)) ({ frames := 1, cells := 0, slots := 0, locals := 23 } : Room)).room s m ([.ref (ad 0)] : List Value).toArray below meth c H locs 0 0 (MQ below (bQi D ad 13 (mc_cell cs ad) s.heap.size (fun r M1 => r = nI (cntB (sawB A) (aN A)) ∧ Ref A M1)) ([.ref (ad 0)] : List Value).toArray s 0 0 (bw_A ad 13 s.heap.size)) (F0 m 9 ls [])) := by
    intro kf
    induction kf with
    | zero => exact by intros; omega
    | succ kf ih =>
      intro z d  M1 H locs ls hd hinv hmu hP hS hl
      refine lv_iload_n hx hb dM_seen_9 rfl (lv_at hl 1 rfl) ?_
      refine lv_aload_n hx hb dM_seen_10 rfl (lv_at hl 2 rfl) ?_
      refine bw_get (own := RM) (ci := 2) (C := RM) (T := TM) (N := 14) (v := .int ((M1 0).1 1)) hx hb hts inM hown hE hP 0 (by decide) rfl rfl 1 (by decide) w_317 rfl rfl dM_seen_11 ?_
      refine ln_asi (nI (aN A)) (by exact hinv.1.1) ?_
      refine ln_icmp_ge (tgt := 39) hx hb dM_seen_14 (by decide) (by omega) (by omega) (fun c_14 => ?_) (fun c_14 => ?_)
      · skip
        refine lv_iload_n hx hb dM_seen_39 rfl (lv_at hl 0 rfl) ?_
        exact W.iret (v := nI z) hx hb hr (fun t ht hW => ⟨⟨_, M1, rfl, ⟨by rw [hinv.2, show d = aN A by omega], hinv.1⟩, by show va_P _ _ _ t.heap; rw [ht]; exact hP⟩, hS.F ht⟩) hS.2.2 dM_seen_40
      · skip
        refine lv_iload_n hx hb dM_seen_17 rfl (lv_at hl 0 rfl) ?_
        refine lv_aload_n hx hb dM_seen_18 rfl (lv_at hl 2 rfl) ?_
        refine lv_iload_n hx hb dM_seen_19 rfl (lv_at hl 1 rfl) ?_
        refine vp_callSi (va_Run.run (bc_runV (own := RM) (C := RM) (As := [.int (nI d)]) (rest := [.int (nI z)]) hx hb (hml.trans hl.1.symm) hown hts (kM_isSeen l D cs ad hI M1 H.size (aN A) d hN (by omega) (hinv.1.pok hA)) w_465 w_462 w_464 ws_sel_M_isSeen w_4 ⟨rfl, hd_M_isSeen⟩ rfl ⟨rfl, rfl⟩ ⟨Nat.le_of_ble_eq_true rfl, Nat.le_of_ble_eq_true rfl⟩ (fun _ _ _ _ h => h.calling) (bc_recv (r := (RM, TM, 14)) hE hP 0 (by decide) rfl rfl) (fun U hU hW => ⟨by rw [hU], by rw [hU]; exact hP, hE.warm hW⟩) rfl (Nat.le_of_ble_eq_true rfl) dM_seen_20 ⟨Nat.le_of_ble_eq_true rfl, Nat.le_of_ble_eq_true rfl⟩)) (fun r_20 hr_20 => ?_)
        refine lv_if_eq (tgt := 30) hx hb dM_seen_23 (by decide) (fun c_23 => ?_) (fun c_23 => ?_)
        · skip
          refine lv_iconst (v := nI 0) hx hb dM_seen_30 (by decide) ?_
          refine ln_iadd hx hb dM_seen_31 ?_
          refine lv_istore_n (lv' := [(1, .int (nI (z + 0))), (2, .int (nI d)), (0, .ref (ad 0))]) hx hb dM_seen_32 rfl hl (by decide) rfl (fun ls hl => ?_)
          refine lv_iinc (v := nI (d + 1)) (lv' := [(2, .int (nI (d + 1))), (1, .int (nI (z + 0))), (0, .ref (ad 0))]) hx hb dM_seen_33 hl (k := 1) rfl (nI_add d 1) (by decide) rfl (fun ls hl => ?_)
          refine lv_goto (tgt := 9) hx hb dM_seen_36 (by decide) ?_
          exact ih (z + 0) (d + 1)  M1 H locs ls (by omega) (⟨hinv.1, by rw [cntB, if_neg (fun q => hr_20.f c_23 ((hinv.1.saw hA (by omega)).mpr q)), ← hinv.2]⟩) (by omega) hP hS (lv_sub hl [1, 0, 2] rfl)
        · skip
          refine lv_iconst (v := nI 1) hx hb dM_seen_26 (by decide) ?_
          refine lv_goto (tgt := 31) hx hb dM_seen_27 (by decide) ?_
          refine ln_iadd hx hb dM_seen_31 ?_
          refine lv_istore_n (lv' := [(1, .int (nI (z + 1))), (2, .int (nI d)), (0, .ref (ad 0))]) hx hb dM_seen_32 rfl hl (by decide) rfl (fun ls hl => ?_)
          refine lv_iinc (v := nI (d + 1)) (lv' := [(2, .int (nI (d + 1))), (1, .int (nI (z + 1))), (0, .ref (ad 0))]) hx hb dM_seen_33 hl (k := 1) rfl (nI_add d 1) (by decide) rfl (fun ls hl => ?_)
          refine lv_goto (tgt := 9) hx hb dM_seen_36 (by decide) ?_
          exact ih (z + 1) (d + 1)  M1 H locs ls (by omega) (⟨hinv.1, by rw [cntB, if_pos ((hinv.1.saw hA (by omega)).mp (hr_20.t c_23)), ← hinv.2]⟩) (by omega) hP hS (lv_sub hl [1, 0, 2] rfl)
  exact (loop 100000) 0 0  M_1 H locs ls (by omega) (⟨hC.thr eM_1, rfl⟩) (by omega) hP hS (lv_sub hl [1, 0, 2] rfl)

set_option maxHeartbeats 4000000 in
set_option maxRecDepth 100000 in
theorem kM_inOrder (l : Launch) (D : va_G) (cs : Nat → ClassId) (ad : Nat → Nat) (hI : bw_I ad 13) (M : Nat → mRow) (sz : Nat) (A : Ab) (hA : aOk A) (hC : Ref A M) (k : Int32)  : Met l yM_inOrder (wc yM_inOrder cM_inOrder 6 (some .int)) ({ frames := 7, cells := 0, slots := 0, locals := 161 } : Room) (va_Pc [.ref (ad 0), .int k] (mP D cs ad M sz)) (bQi D ad 13 (mc_cell cs ad) sz (fun r M1 => r = fnd A k (aN A) ∧ Ref A M1)) 0 0 (bw_A ad 13 sz) := by
  refine Met.ofW (cc := cM_inOrder) (maxL := 6) (ret := (some .int)) (by decide +kernel) rfl ?_
  intro p e s m args below meth c s₁ B hml hv
  obtain ⟨rfl, hsz, hP, hE⟩ := hv
  subst hsz
  have hx := B.exec
  have hb := B.bytes
  have hr := B.returns
  have hts : ∀ w9 ∈ ws_all, w9.before ([.ref (ad 0), .int k] : List Value).toArray s = true := fun w9 h => atoms_spec (ws := (wc yM_inOrder cM_inOrder 6 (some .int))) B.pre w9 (List.mem_cons_of_mem _ h)
  have hown : s.vm.findClass RM = some m.cls := findClass_of_methodNamed B.named
  have hlocks := B.notSynchronized
  have hS : va_S (bw_A ad 13 s.heap.size) s.heap s.heap [] := va_S.rf
  have hl := lv_entry ([.ref (ad 0), .int k]) (n := 6) (Nat.le_of_ble_eq_true rfl)
  rw [lg_entry_eq]
  generalize (lg_sl ([.ref (ad 0), .int k]) ++ List.replicate (6 - (lg_sl ([.ref (ad 0), .int k])).length) Slot.unset).toArray = ls at hl ⊢
  have hl : lv_has ls 6 [(0, .ref (ad 0)), (1, .int k)] := hl
  have hN : aN A ≤ 48 := hA.1
  obtain ⟨hn, hrow, heye⟩ := id hC
  refine lv_aload_n hx hb dM_inOrder_0 rfl (lv_at hl 0 rfl) ?_
  refine lv_iconst (v := nI 0) hx hb dM_inOrder_1 (by decide) ?_
  refine bw_put (own := RM) (ci := 2) (C := RM) (T := TM) (N := 14) (v := .int (nI 0)) (ty := .int) hx hb hts inM tyM tyM_ok nmM hown hE hI hP hS 0 (by decide) rfl rfl 0 (by decide) w_316 rfl rfl ((upd (M 0).1 0 (nI 0), (M 0).2)) rfl (by decide +kernel) rfl rfl (Nat.le_of_ble_eq_true rfl) dM_inOrder_2 (fun M_1 H locs eM_1 hP hS => ?_)
  refine lv_iconst (v := nI 0) hx hb dM_inOrder_5 (by decide) ?_
  refine lv_istore_n (lv' := [(2, .int (nI 0)), (0, .ref (ad 0)), (1, .int k)]) hx hb dM_inOrder_6 rfl hl (by decide) rfl (fun ls hl => ?_)
  have loop : ∀ kf : Nat, (∀ (d : Nat)  (M1 : Nat → mRow) (H : Heap) (locs : List Loc) (ls : Array Slot), (d ≤ aN A) → (rO A M1 d) → aN A - d < kf → va_P D cls3 (bw ad 13 (fun j => mc_cell cs ad j (M1 j))) H → va_S (bw_A ad 13 s.heap.size) s.heap H locs → lv_has ls 6 [(2, .int (nI d)), (0, .ref (ad 0)), (1, .int k)] → W p l e (headSpec (wc yM_inOrder cM_inOrder 6 (some .int)) ({ frames := 7, cells := 0, slots := 0, locals := 161 } : Room)).room s m ([.ref (ad 0), .int k] : List Value).toArray below meth c H locs 0 0 (MQ below (bQi D ad 13 (mc_cell cs ad) s.heap.size (fun r M1 => r = fnd A k (aN A) ∧ Ref A M1)) ([.ref (ad 0), .int k] : List Value).toArray s 0 0 (bw_A ad 13 s.heap.size)) (F0 m 7 ls [])) := by
    intro kf
    induction kf with
    | zero => exact by intros; omega
    | succ kf ih =>
      intro d  M1 H locs ls hd hinv hmu hP hS hl
      refine lv_iload_n hx hb dM_inOrder_7 rfl (lv_at hl 0 rfl) ?_
      refine lv_aload_n hx hb dM_inOrder_8 rfl (lv_at hl 1 rfl) ?_
      refine bw_get (own := RM) (ci := 2) (C := RM) (T := TM) (N := 14) (v := .int ((M1 0).1 1)) hx hb hts inM hown hE hP 0 (by decide) rfl rfl 1 (by decide) w_317 rfl rfl dM_inOrder_9 ?_
      refine ln_asi (nI (aN A)) (by exact hinv.1.1) ?_
      refine ln_icmp_ge (tgt := 39) hx hb dM_inOrder_12 (by decide) (by omega) (by omega) (fun c_12 => ?_) (fun c_12 => ?_)
      · skip
        refine lv_iconst (v := (-1)) hx hb dM_inOrder_39 (by decide) ?_
        refine lv_istore_n (lv' := [(2, .int (-1)), (0, .ref (ad 0)), (1, .int k)]) hx hb dM_inOrder_40 rfl hl (by decide) rfl (fun ls hl => ?_)
        refine lv_iconst (v := nI 0) hx hb dM_inOrder_41 (by decide) ?_
        refine lv_istore_n (lv' := [(3, .int (nI 0)), (2, .int (-1)), (0, .ref (ad 0)), (1, .int k)]) hx hb dM_inOrder_42 rfl hl (by decide) rfl (fun ls hl => ?_)
        have hO0 : rO A M1 (aN A) := by have hdN : d = aN A := (by omega); rw [hdN] at hinv; exact hinv
        have loop2 : ∀ kf : Nat, (∀ (d : Nat)  (M1 : Nat → mRow) (H : Heap) (locs : List Loc) (ls : Array Slot), (d ≤ aN A) → (rO A M1 (aN A)) → 60 * (aN A - d) < kf → va_P D cls3 (bw ad 13 (fun j => mc_cell cs ad j (M1 j))) H → va_S (bw_A ad 13 s.heap.size) s.heap H locs → lv_has ls 6 [(3, .int (nI d)), (0, .ref (ad 0)), (1, .int k), (2, .int (fnd A k d))] → W p l e (headSpec (wc yM_inOrder cM_inOrder 6 (some .int)) ({ frames := 7, cells := 0, slots := 0, locals := 161 } : Room)).room s m ([.ref (ad 0), .int k] : List Value).toArray below meth c H locs 0 0 (MQ below (bQi D ad 13 (mc_cell cs ad) s.heap.size (fun r M1 => r = fnd A k (aN A) ∧ Ref A M1)) ([.ref (ad 0), .int k] : List Value).toArray s 0 0 (bw_A ad 13 s.heap.size)) (F0 m 43 ls [])) ∧ (∀ (d : Nat) (z : Nat) (x : Nat)  (M1 : Nat → mRow) (H : Heap) (locs : List Loc) (ls : Array Slot), (d < aN A) → (x ≤ aN A) → (rO A M1 (aN A)) → (z = cbB A d x) → 60 * (aN A - d) - 1 - x < kf → va_P D cls3 (bw ad 13 (fun j => mc_cell cs ad j (M1 j))) H → va_S (bw_A ad 13 s.heap.size) s.heap H locs → lv_has ls 6 [(3, .int (nI d)), (4, .int (nI z)), (5, .int (nI x)), (0, .ref (ad 0)), (1, .int k), (2, .int (fnd A k d))] → W p l e (headSpec (wc yM_inOrder cM_inOrder 6 (some .int)) ({ frames := 7, cells := 0, slots := 0, locals := 161 } : Room)).room s m ([.ref (ad 0), .int k] : List Value).toArray below meth c H locs 0 0 (MQ below (bQi D ad 13 (mc_cell cs ad) s.heap.size (fun r M1 => r = fnd A k (aN A) ∧ Ref A M1)) ([.ref (ad 0), .int k] : List Value).toArray s 0 0 (bw_A ad 13 s.heap.size)) (F0 m 57 ls [])) := by
          intro kf
          induction kf with
          | zero => exact ⟨by intros; omega, by intros; omega⟩
          | succ kf ih =>
            refine ⟨?_, ?_⟩
            · skip
              intro d  M1 H locs ls hd hO hmu hP hS hl
              refine lv_iload_n hx hb dM_inOrder_43 rfl (lv_at hl 0 rfl) ?_
              refine lv_aload_n hx hb dM_inOrder_44 rfl (lv_at hl 1 rfl) ?_
              refine bw_get (own := RM) (ci := 2) (C := RM) (T := TM) (N := 14) (v := .int ((M1 0).1 1)) hx hb hts inM hown hE hP 0 (by decide) rfl rfl 1 (by decide) w_317 rfl rfl dM_inOrder_45 ?_
              refine ln_asi (nI (aN A)) (by exact hO.1.1) ?_
              refine ln_icmp_ge (tgt := 127) hx hb dM_inOrder_48 (by decide) (by omega) (by omega) (fun c_48 => ?_) (fun c_48 => ?_)
              · skip
                refine lv_iload_n hx hb dM_inOrder_127 rfl (lv_at hl 3 rfl) ?_
                exact W.iret (v := fnd A k d) hx hb hr (fun t ht hW => ⟨⟨_, M1, rfl, ⟨by rw [show aN A = d by omega], hO.1⟩, by show va_P _ _ _ t.heap; rw [ht]; exact hP⟩, hS.F ht⟩) hS.2.2 dM_inOrder_128
              · skip
                refine lv_iconst (v := nI 0) hx hb dM_inOrder_51 (by decide) ?_
                refine lv_istore (lv' := [(4, .int (nI 0)), (3, .int (nI d)), (0, .ref (ad 0)), (1, .int k), (2, .int (fnd A k d))]) hx hb dM_inOrder_52 hl (by decide) rfl (fun ls hl => ?_)
                refine lv_iconst (v := nI 0) hx hb dM_inOrder_54 (by decide) ?_
                refine lv_istore (lv' := [(5, .int (nI 0)), (4, .int (nI 0)), (3, .int (nI d)), (0, .ref (ad 0)), (1, .int k), (2, .int (fnd A k d))]) hx hb dM_inOrder_55 hl (by decide) rfl (fun ls hl => ?_)
                exact ih.2 d 0 0  M1 H locs ls (by omega) (by omega) (by assumption) (rfl) (by omega) hP hS (lv_sub hl [2, 1, 0, 3, 4, 5] rfl)
            · skip
              intro d z x  M1 H locs ls hd hx9 hO hcb hmu hP hS hl
              refine lv_iload hx hb dM_inOrder_57 (lv_at hl 2 rfl) ?_
              refine lv_aload_n hx hb dM_inOrder_59 rfl (lv_at hl 3 rfl) ?_
              refine bw_get (own := RM) (ci := 2) (C := RM) (T := TM) (N := 14) (v := .int ((M1 0).1 1)) hx hb hts inM hown hE hP 0 (by decide) rfl rfl 1 (by decide) w_317 rfl rfl dM_inOrder_60 ?_
              refine ln_asi (nI (aN A)) (by exact hO.1.1) ?_
              refine ln_icmp_ge (tgt := 101) hx hb dM_inOrder_63 (by decide) (by omega) (by omega) (fun c_63 => ?_) (fun c_63 => ?_)
              · skip
                refine lv_aload_n hx hb dM_inOrder_101 rfl (lv_at hl 3 rfl) ?_
                refine lv_iload_n hx hb dM_inOrder_102 rfl (lv_at hl 0 rfl) ?_
                refine vp_callSi (va_Run.run (bc_runV (own := RM) (C := RM) (As := [.int (nI d)]) (rest := []) hx hb (hml.trans hl.1.symm) hown hts (kM_isSeen l D cs ad hI M1 H.size (aN A) d hN (by omega) (hO.1.pok hA)) w_465 w_462 w_464 ws_sel_M_isSeen w_4 ⟨rfl, hd_M_isSeen⟩ rfl ⟨rfl, rfl⟩ ⟨Nat.le_of_ble_eq_true rfl, Nat.le_of_ble_eq_true rfl⟩ (fun _ _ _ _ h => h.calling) (bc_recv (r := (RM, TM, 14)) hE hP 0 (by decide) rfl rfl) (fun U hU hW => ⟨by rw [hU], by rw [hU]; exact hP, hE.warm hW⟩) rfl (Nat.le_of_ble_eq_true rfl) dM_inOrder_103 ⟨Nat.le_of_ble_eq_true rfl, Nat.le_of_ble_eq_true rfl⟩)) (fun r_103 hr_103 => ?_)
                refine lv_if_eq (tgt := 119) hx hb dM_inOrder_106 (by decide) (fun c_106 => ?_) (fun c_106 => ?_)
                · skip
                  refine lv_iload_n hx hb dM_inOrder_119 rfl (lv_at hl 5 rfl) ?_
                  refine ln_asi (fnd A k (d + 1)) (by show _ = (if sawB A d = true ∧ _ then _ else _); rw [if_neg (fun q => hr_103.f c_106 ((hO.1.saw hA (by omega)).mpr q.1))]) ?_
                  refine lv_istore_n (lv' := [(2, .int (fnd A k (d + 1))), (3, .int (nI d)), (4, .int (nI z)), (5, .int (nI x)), (0, .ref (ad 0)), (1, .int k)]) hx hb dM_inOrder_120 rfl hl (by decide) rfl (fun ls hl => ?_)
                  refine lv_iinc (v := nI (d + 1)) (lv' := [(3, .int (nI (d + 1))), (2, .int (fnd A k (d + 1))), (4, .int (nI z)), (5, .int (nI x)), (0, .ref (ad 0)), (1, .int k)]) hx hb dM_inOrder_121 hl (k := 1) rfl (nI_add d 1) (by decide) rfl (fun ls hl => ?_)
                  refine lv_goto (tgt := 43) hx hb dM_inOrder_124 (by decide) ?_
                  exact ih.1 (d + 1)  M1 H locs ls (by omega) (by assumption) (by omega) hP hS (lv_sub hl [0, 4, 5, 1] rfl)
                · skip
                  refine lv_iload hx hb dM_inOrder_109 (lv_at hl 1 rfl) ?_
                  refine lv_iload_n hx hb dM_inOrder_111 rfl (lv_at hl 4 rfl) ?_
                  refine lv_icmp_ne (tgt := 119) hx hb dM_inOrder_112 (by decide) (fun c_112 => ?_) (fun c_112 => ?_)
                  · skip
                    refine lv_iload_n hx hb dM_inOrder_119 rfl (lv_at hl 5 rfl) ?_
                    refine ln_asi (fnd A k (d + 1)) (by show _ = (if sawB A d = true ∧ _ then _ else _); rw [if_neg (fun q => c_112 (by rw [hcb, show x = aN A by omega]; exact q.2))]) ?_
                    refine lv_istore_n (lv' := [(2, .int (fnd A k (d + 1))), (3, .int (nI d)), (4, .int (nI z)), (5, .int (nI x)), (0, .ref (ad 0)), (1, .int k)]) hx hb dM_inOrder_120 rfl hl (by decide) rfl (fun ls hl => ?_)
                    refine lv_iinc (v := nI (d + 1)) (lv' := [(3, .int (nI (d + 1))), (2, .int (fnd A k (d + 1))), (4, .int (nI z)), (5, .int (nI x)), (0, .ref (ad 0)), (1, .int k)]) hx hb dM_inOrder_121 hl (k := 1) rfl (nI_add d 1) (by decide) rfl (fun ls hl => ?_)
                    refine lv_goto (tgt := 43) hx hb dM_inOrder_124 (by decide) ?_
                    exact ih.1 (d + 1)  M1 H locs ls (by omega) (by assumption) (by omega) hP hS (lv_sub hl [0, 4, 5, 1] rfl)
                  · skip
                    refine lv_iload_n hx hb dM_inOrder_115 rfl (lv_at hl 0 rfl) ?_
                    refine lv_goto (tgt := 120) hx hb dM_inOrder_116 (by decide) ?_
                    refine ln_asi (fnd A k (d + 1)) (by show _ = (if sawB A d = true ∧ _ then _ else _); rw [if_pos ⟨(hO.1.saw hA (by omega)).mp (hr_103.t c_106), by rw [← c_112, hcb, show x = aN A by omega]⟩]) ?_
                    refine lv_istore_n (lv' := [(2, .int (fnd A k (d + 1))), (3, .int (nI d)), (4, .int (nI z)), (5, .int (nI x)), (0, .ref (ad 0)), (1, .int k)]) hx hb dM_inOrder_120 rfl hl (by decide) rfl (fun ls hl => ?_)
                    refine lv_iinc (v := nI (d + 1)) (lv' := [(3, .int (nI (d + 1))), (2, .int (fnd A k (d + 1))), (4, .int (nI z)), (5, .int (nI x)), (0, .ref (ad 0)), (1, .int k)]) hx hb dM_inOrder_121 hl (k := 1) rfl (nI_add d 1) (by decide) rfl (fun ls hl => ?_)
                    refine lv_goto (tgt := 43) hx hb dM_inOrder_124 (by decide) ?_
                    exact ih.1 (d + 1)  M1 H locs ls (by omega) (by assumption) (by omega) hP hS (lv_sub hl [0, 4, 5, 1] rfl)
              · skip
                refine lv_iload hx hb dM_inOrder_66 (lv_at hl 1 rfl) ?_
                refine lv_aload_n hx hb dM_inOrder_68 rfl (lv_at hl 3 rfl) ?_
                refine lv_iload hx hb dM_inOrder_69 (lv_at hl 2 rfl) ?_
                refine vp_callSi (va_Run.run (bc_runV (own := RM) (C := RM) (As := [.int (nI x)]) (rest := [.int (nI z)]) hx hb (hml.trans hl.1.symm) hown hts (kM_isSeen l D cs ad hI M1 H.size (aN A) x hN (by omega) (hO.1.pok hA)) w_465 w_462 w_464 ws_sel_M_isSeen w_4 ⟨rfl, hd_M_isSeen⟩ rfl ⟨rfl, rfl⟩ ⟨Nat.le_of_ble_eq_true rfl, Nat.le_of_ble_eq_true rfl⟩ (fun _ _ _ _ h => h.calling) (bc_recv (r := (RM, TM, 14)) hE hP 0 (by decide) rfl rfl) (fun U hU hW => ⟨by rw [hU], by rw [hU]; exact hP, hE.warm hW⟩) rfl (Nat.le_of_ble_eq_true rfl) dM_inOrder_71 ⟨Nat.le_of_ble_eq_true rfl, Nat.le_of_ble_eq_true rfl⟩)) (fun r_71 hr_71 => ?_)
                refine lv_if_eq (tgt := 91) hx hb dM_inOrder_74 (by decide) (fun c_74 => ?_) (fun c_74 => ?_)
                · skip
                  refine lv_iconst (v := nI 0) hx hb dM_inOrder_91 (by decide) ?_
                  refine ln_iadd hx hb dM_inOrder_92 ?_
                  refine lv_istore (lv' := [(4, .int (nI (z + 0))), (3, .int (nI d)), (5, .int (nI x)), (0, .ref (ad 0)), (1, .int k), (2, .int (fnd A k d))]) hx hb dM_inOrder_93 hl (by decide) rfl (fun ls hl => ?_)
                  refine lv_iinc (v := nI (x + 1)) (lv' := [(5, .int (nI (x + 1))), (4, .int (nI (z + 0))), (3, .int (nI d)), (0, .ref (ad 0)), (1, .int k), (2, .int (fnd A k d))]) hx hb dM_inOrder_95 hl (k := 2) rfl (nI_add x 1) (by decide) rfl (fun ls hl => ?_)
                  refine lv_goto (tgt := 57) hx hb dM_inOrder_98 (by decide) ?_
                  exact ih.2 d (z + 0) (x + 1)  M1 H locs ls (by omega) (by omega) (by assumption) (by rw [cbB_succ, if_neg (fun q => hr_71.f c_74 ((hO.1.saw hA (by omega)).mpr (Bool.and_eq_true_iff.mp q).1)), ← hcb]) (by omega) hP hS (lv_sub hl [2, 1, 0, 3, 4, 5] rfl)
                · skip
                  refine lv_aload_n hx hb dM_inOrder_77 rfl (lv_at hl 3 rfl) ?_
                  refine lv_iload hx hb dM_inOrder_78 (lv_at hl 2 rfl) ?_
                  refine lv_iload_n hx hb dM_inOrder_80 rfl (lv_at hl 0 rfl) ?_
                  refine vp_callSi (va_Run.run (bc_runV (own := RM) (C := RM) (As := [.int (nI x), .int (nI d)]) (rest := [.int (nI z)]) hx hb (hml.trans hl.1.symm) hown hts (kM_isBefore l D cs ad hI M1 H.size x d (by omega) (by omega)) w_473 w_470 w_472 ws_sel_M_isBefore w_4 ⟨rfl, hd_M_isBefore⟩ rfl ⟨rfl, rfl⟩ ⟨Nat.le_of_ble_eq_true rfl, Nat.le_of_ble_eq_true rfl⟩ (fun _ _ _ _ h => h.calling) (bc_recv (r := (RM, TM, 14)) hE hP 0 (by decide) rfl rfl) (fun U hU hW => ⟨by rw [hU], by rw [hU]; exact hP, hE.warm hW⟩) rfl (Nat.le_of_ble_eq_true rfl) dM_inOrder_81 ⟨Nat.le_of_ble_eq_true rfl, Nat.le_of_ble_eq_true rfl⟩)) (fun r_81 hr_81 => ?_)
                  refine lv_if_eq (tgt := 91) hx hb dM_inOrder_84 (by decide) (fun c_84 => ?_) (fun c_84 => ?_)
                  · skip
                    refine lv_iconst (v := nI 0) hx hb dM_inOrder_91 (by decide) ?_
                    refine ln_iadd hx hb dM_inOrder_92 ?_
                    refine lv_istore (lv' := [(4, .int (nI (z + 0))), (3, .int (nI d)), (5, .int (nI x)), (0, .ref (ad 0)), (1, .int k), (2, .int (fnd A k d))]) hx hb dM_inOrder_93 hl (by decide) rfl (fun ls hl => ?_)
                    refine lv_iinc (v := nI (x + 1)) (lv' := [(5, .int (nI (x + 1))), (4, .int (nI (z + 0))), (3, .int (nI d)), (0, .ref (ad 0)), (1, .int k), (2, .int (fnd A k d))]) hx hb dM_inOrder_95 hl (k := 2) rfl (nI_add x 1) (by decide) rfl (fun ls hl => ?_)
                    refine lv_goto (tgt := 57) hx hb dM_inOrder_98 (by decide) ?_
                    exact ih.2 d (z + 0) (x + 1)  M1 H locs ls (by omega) (by omega) (by assumption) (by rw [cbB_succ, if_neg (fun q => hr_81.f c_84 (((rbef_key (hO.2 x (by omega)) (hO.2 d (by omega))).trans ((ltK_congr (by unfold ky1; rw [(hO.1.2.1 x (by omega)).2.1]) (by unfold ky1; rw [(hO.1.2.1 d (by omega)).2.1]) (by unfold ky2; rw [(hO.1.2.1 x (by omega)).2.1]) (by unfold ky2; rw [(hO.1.2.1 d (by omega)).2.1])).trans (bfB_lt A x d).symm)).mpr (Bool.and_eq_true_iff.mp q).2)), ← hcb]) (by omega) hP hS (lv_sub hl [2, 1, 0, 3, 4, 5] rfl)
                  · skip
                    refine lv_iconst (v := nI 1) hx hb dM_inOrder_87 (by decide) ?_
                    refine lv_goto (tgt := 92) hx hb dM_inOrder_88 (by decide) ?_
                    refine ln_iadd hx hb dM_inOrder_92 ?_
                    refine lv_istore (lv' := [(4, .int (nI (z + 1))), (3, .int (nI d)), (5, .int (nI x)), (0, .ref (ad 0)), (1, .int k), (2, .int (fnd A k d))]) hx hb dM_inOrder_93 hl (by decide) rfl (fun ls hl => ?_)
                    refine lv_iinc (v := nI (x + 1)) (lv' := [(5, .int (nI (x + 1))), (4, .int (nI (z + 1))), (3, .int (nI d)), (0, .ref (ad 0)), (1, .int k), (2, .int (fnd A k d))]) hx hb dM_inOrder_95 hl (k := 2) rfl (nI_add x 1) (by decide) rfl (fun ls hl => ?_)
                    refine lv_goto (tgt := 57) hx hb dM_inOrder_98 (by decide) ?_
                    exact ih.2 d (z + 1) (x + 1)  M1 H locs ls (by omega) (by omega) (by assumption) (by rw [cbB_succ, if_pos (Bool.and_eq_true_iff.mpr ⟨(hO.1.saw hA (by omega)).mp (hr_71.t c_74), ((rbef_key (hO.2 x (by omega)) (hO.2 d (by omega))).trans ((ltK_congr (by unfold ky1; rw [(hO.1.2.1 x (by omega)).2.1]) (by unfold ky1; rw [(hO.1.2.1 d (by omega)).2.1]) (by unfold ky2; rw [(hO.1.2.1 x (by omega)).2.1]) (by unfold ky2; rw [(hO.1.2.1 d (by omega)).2.1])).trans (bfB_lt A x d).symm)).mp (hr_81.t c_84)⟩), ← hcb]) (by omega) hP hS (lv_sub hl [2, 1, 0, 3, 4, 5] rfl)
        exact (loop2 100000).1 0  M1 H locs ls (by omega) (by assumption) (by omega) hP hS (lv_sub hl [0, 2, 3, 1] rfl)
      · skip
        refine lv_aload_n hx hb dM_inOrder_15 rfl (lv_at hl 1 rfl) ?_
        refine lv_iload_n hx hb dM_inOrder_16 rfl (lv_at hl 0 rfl) ?_
        refine bc_callv (bc_runV (own := RM) (C := RM) (As := [.int (nI d)]) (rest := []) hx hb (hml.trans hl.1.symm) hown hts (kM_makesModel l D cs ad hI M1 H.size (aN A) d hN (by omega) (hinv.1.pok hA)) w_457 w_454 w_456 ws_sel_M_makesModel w_4 ⟨rfl, hd_M_makesModel⟩ rfl ⟨rfl, rfl⟩ ⟨Nat.le_of_ble_eq_true rfl, Nat.le_of_ble_eq_true rfl⟩ (fun _ _ _ _ h => h.calling) (bc_recv (r := (RM, TM, 14)) hE hP 0 (by decide) rfl rfl) (fun U hU hW => ⟨by rw [hU], by rw [hU]; exact hP, hE.warm hW⟩) rfl (Nat.le_of_ble_eq_true rfl) dM_inOrder_17 ⟨Nat.le_of_ble_eq_true rfl, Nat.le_of_ble_eq_true rfl⟩) hS (fun M_2 H locs hr_17 hP hS => ?_)
        refine lv_aload_n hx hb dM_inOrder_20 rfl (lv_at hl 1 rfl) ?_
        refine bw_get (own := RM) (ci := 2) (C := RM) (T := TM) (N := 14) (v := .ref (ad 6)) hx hb hts inM hown hE hP 0 (by decide) rfl rfl 7 (by decide) w_323 rfl rfl dM_inOrder_21 ?_
        refine lv_iload_n hx hb dM_inOrder_24 rfl (lv_at hl 0 rfl) ?_
        refine lv_aload_n hx hb dM_inOrder_25 rfl (lv_at hl 1 rfl) ?_
        refine bw_get (own := RM) (ci := 2) (C := RM) (T := TM) (N := 14) (v := .ref (ad 7)) hx hb hts inM hown hE hP 0 (by decide) rfl rfl 8 (by decide) w_324 rfl rfl dM_inOrder_26 ?_
        refine lv_bipush (v := nI 11) hx hb dM_inOrder_29 (by decide) ?_
        refine ln_lald (L := 12) (g := (M_2 7).2) hx hb hE hP 7 3 (by decide) (rfl) rfl (by omega) (by decide) dM_inOrder_31 ?_
        refine ln_last (L := 48) hx hb hE hI hP hS 6 3 (by decide) (rfl) rfl (by omega) (by decide) (((M_2 6).1, vp_updL (M_2 6).2 d ((M_2 7).2 11))) (rfl) dM_inOrder_32 (fun M_3 H locs eM_3 hP hS => ?_)
        refine lv_iinc (v := nI (d + 1)) (lv' := [(2, .int (nI (d + 1))), (0, .ref (ad 0)), (1, .int k)]) hx hb dM_inOrder_33 hl (k := 0) rfl (nI_add d 1) (by decide) rfl (fun ls hl => ?_)
        refine lv_goto (tgt := 7) hx hb dM_inOrder_36 (by decide) ?_
        exact ih (d + 1)  M_3 H locs ls (by omega) (hinv.step hA (by omega) hr_17 eM_3) (by omega) hP hS (lv_sub hl [0, 1, 2] rfl)
  exact (loop 100000) 0  M_1 H locs ls (by omega) (⟨hC.thr eM_1, fun n hn => by omega⟩) (by omega) hP hS (lv_sub hl [0, 1, 2] rfl)

set_option maxHeartbeats 4000000 in
set_option maxRecDepth 100000 in
theorem kM_about (l : Launch) (D : va_G) (cs : Nat → ClassId) (ad : Nat → Nat) (hI : bw_I ad 13) (M : Nat → mRow) (sz : Nat) (A : Ab) (hA : aOk A) (hC : Ref A M) (n q : Int32)  : Met l yM_about (wc yM_about cM_about 3 (some .int)) ({ frames := 1, cells := 0, slots := 0, locals := 21 } : Room) (va_Pc [.ref (ad 0), .int n, .int q] (mP D cs ad M sz)) (bQi D ad 13 (mc_cell cs ad) sz (fun r M1 => Ref A M1 ∧ ((pAbt A n q ∧ (M1 0).1 0 = nI 0 ∧ r = abA A n.toNatClampNeg q.toNatClampNeg) ∨ (¬ pAbt A n q ∧ (M1 0).1 0 = nI 1)))) 0 0 (bw_A ad 13 sz) := by
  refine Met.ofW (cc := cM_about) (maxL := 3) (ret := (some .int)) (by decide +kernel) rfl ?_
  intro p e s m args below meth c s₁ B hml hv
  obtain ⟨rfl, hsz, hP, hE⟩ := hv
  subst hsz
  have hx := B.exec
  have hb := B.bytes
  have hr := B.returns
  have hts : ∀ w9 ∈ ws_all, w9.before ([.ref (ad 0), .int n, .int q] : List Value).toArray s = true := fun w9 h => atoms_spec (ws := (wc yM_about cM_about 3 (some .int))) B.pre w9 (List.mem_cons_of_mem _ h)
  have hown : s.vm.findClass RM = some m.cls := findClass_of_methodNamed B.named
  have hlocks := B.notSynchronized
  have hS : va_S (bw_A ad 13 s.heap.size) s.heap s.heap [] := va_S.rf
  have hl := lv_entry ([.ref (ad 0), .int n, .int q]) (n := 3) (Nat.le_of_ble_eq_true rfl)
  rw [lg_entry_eq]
  generalize (lg_sl ([.ref (ad 0), .int n, .int q]) ++ List.replicate (3 - (lg_sl ([.ref (ad 0), .int n, .int q])).length) Slot.unset).toArray = ls at hl ⊢
  have hl : lv_has ls 3 [(0, .ref (ad 0)), (1, .int n), (2, .int q)] := hl
  have hN : aN A ≤ 48 := hA.1
  obtain ⟨hn, hrow, heye⟩ := id hC
  refine lv_aload_n hx hb dM_about_0 rfl (lv_at hl 0 rfl) ?_
  refine lv_aload_n hx hb dM_about_1 rfl (lv_at hl 0 rfl) ?_
  refine lv_iload_n hx hb dM_about_2 rfl (lv_at hl 1 rfl) ?_
  refine vp_callSi (va_Run.run (bc_runV (own := RM) (C := RM) (As := [.int n]) (rest := [.ref (ad 0)]) hx hb (hml.trans hl.1.symm) hown hts (kM_isNode l D cs ad hI M s.heap.size n) w_380 w_377 w_379 ws_sel_M_isNode w_4 ⟨rfl, hd_M_isNode⟩ rfl ⟨rfl, rfl⟩ ⟨Nat.le_of_ble_eq_true rfl, Nat.le_of_ble_eq_true rfl⟩ (fun _ _ _ _ h => h.calling) (bc_recv (r := (RM, TM, 14)) hE hP 0 (by decide) rfl rfl) (fun U hU hW => ⟨by rw [hU], by rw [hU]; exact hP, hE.warm hW⟩) rfl (Nat.le_of_ble_eq_true rfl) dM_about_3 ⟨Nat.le_of_ble_eq_true rfl, Nat.le_of_ble_eq_true rfl⟩)) (fun r_3 hr_3 => ?_)
  rw [hn] at hr_3
  refine lv_if_eq (tgt := 23) hx hb dM_about_6 (by decide) (fun c_6 => ?_) (fun c_6 => ?_)
  · skip
    refine lv_iconst (v := nI 1) hx hb dM_about_23 (by decide) ?_
    refine bw_put (own := RM) (ci := 2) (C := RM) (T := TM) (N := 14) (v := .int (nI 1)) (ty := .int) hx hb hts inM tyM tyM_ok nmM hown hE hI hP hS 0 (by decide) rfl rfl 0 (by decide) w_316 rfl rfl ((upd (M 0).1 0 (nI 1), (M 0).2)) rfl (by decide +kernel) rfl rfl (Nat.le_of_ble_eq_true rfl) dM_about_24 (fun M_1 H locs eM_1 hP hS => ?_)
    refine lv_aload_n hx hb dM_about_27 rfl (lv_at hl 0 rfl) ?_
    refine bw_get (own := RM) (ci := 2) (C := RM) (T := TM) (N := 14) (v := .int ((M_1 0).1 0)) hx hb hts inM hown hE hP 0 (by decide) rfl rfl 0 (by decide) w_316 rfl rfl dM_about_28 ?_
    refine ln_asi (nI 1) (by rw [eM_1, va_up_self]; exact m_us) ?_
    refine lv_iconst (v := nI 1) hx hb dM_about_31 (by decide) ?_
    refine ln_icmp_ne (tgt := 37) hx hb dM_about_32 (by decide) (by omega) (by omega) (fun c_32 => ?_) (fun c_32 => ?_)
    · skip
      exact absurd rfl c_32
    · skip
      refine lv_iconst (v := nI 0) hx hb dM_about_35 (by decide) ?_
      exact W.iret (v := nI 0) hx hb hr (fun t ht hW => ⟨⟨_, M_1, rfl, ⟨hC.thr eM_1, Or.inr ⟨fun h9 => hr_3.f c_6 h9.1, by rw [eM_1, va_up_self]; exact m_us⟩⟩, by show va_P _ _ _ t.heap; rw [ht]; exact hP⟩, hS.F ht⟩) hS.2.2 dM_about_36
  · skip
    refine lv_iload_n hx hb dM_about_9 rfl (lv_at hl 2 rfl) ?_
    refine lv_if_lt (tgt := 23) hx hb dM_about_10 (by decide) (fun c_10 => ?_) (fun c_10 => ?_)
    · skip
      refine lv_iconst (v := nI 1) hx hb dM_about_23 (by decide) ?_
      refine bw_put (own := RM) (ci := 2) (C := RM) (T := TM) (N := 14) (v := .int (nI 1)) (ty := .int) hx hb hts inM tyM tyM_ok nmM hown hE hI hP hS 0 (by decide) rfl rfl 0 (by decide) w_316 rfl rfl ((upd (M 0).1 0 (nI 1), (M 0).2)) rfl (by decide +kernel) rfl rfl (Nat.le_of_ble_eq_true rfl) dM_about_24 (fun M_2 H locs eM_2 hP hS => ?_)
      refine lv_aload_n hx hb dM_about_27 rfl (lv_at hl 0 rfl) ?_
      refine bw_get (own := RM) (ci := 2) (C := RM) (T := TM) (N := 14) (v := .int ((M_2 0).1 0)) hx hb hts inM hown hE hP 0 (by decide) rfl rfl 0 (by decide) w_316 rfl rfl dM_about_28 ?_
      refine ln_asi (nI 1) (by rw [eM_2, va_up_self]; exact m_us) ?_
      refine lv_iconst (v := nI 1) hx hb dM_about_31 (by decide) ?_
      refine ln_icmp_ne (tgt := 37) hx hb dM_about_32 (by decide) (by omega) (by omega) (fun c_32 => ?_) (fun c_32 => ?_)
      · skip
        exact absurd rfl c_32
      · skip
        refine lv_iconst (v := nI 0) hx hb dM_about_35 (by decide) ?_
        exact W.iret (v := nI 0) hx hb hr (fun t ht hW => ⟨⟨_, M_2, rfl, ⟨hC.thr eM_2, Or.inr ⟨fun h9 => by have := h9.2.1; simp only [Int32.lt_iff_toInt_lt, Int32.le_iff_toInt_le, nI, Int32.reduceOfNat, Int32.reduceToInt] at c_10 this; omega, by rw [eM_2, va_up_self]; exact m_us⟩⟩, by show va_P _ _ _ t.heap; rw [ht]; exact hP⟩, hS.F ht⟩) hS.2.2 dM_about_36
    · skip
      refine lv_iload_n hx hb dM_about_13 rfl (lv_at hl 2 rfl) ?_
      refine lv_bipush (v := nI 12) hx hb dM_about_14 (by decide) ?_
      refine lv_icmp_ge (tgt := 23) hx hb dM_about_16 (by decide) (fun c_16 => ?_) (fun c_16 => ?_)
      · skip
        refine lv_iconst (v := nI 1) hx hb dM_about_23 (by decide) ?_
        refine bw_put (own := RM) (ci := 2) (C := RM) (T := TM) (N := 14) (v := .int (nI 1)) (ty := .int) hx hb hts inM tyM tyM_ok nmM hown hE hI hP hS 0 (by decide) rfl rfl 0 (by decide) w_316 rfl rfl ((upd (M 0).1 0 (nI 1), (M 0).2)) rfl (by decide +kernel) rfl rfl (Nat.le_of_ble_eq_true rfl) dM_about_24 (fun M_3 H locs eM_3 hP hS => ?_)
        refine lv_aload_n hx hb dM_about_27 rfl (lv_at hl 0 rfl) ?_
        refine bw_get (own := RM) (ci := 2) (C := RM) (T := TM) (N := 14) (v := .int ((M_3 0).1 0)) hx hb hts inM hown hE hP 0 (by decide) rfl rfl 0 (by decide) w_316 rfl rfl dM_about_28 ?_
        refine ln_asi (nI 1) (by rw [eM_3, va_up_self]; exact m_us) ?_
        refine lv_iconst (v := nI 1) hx hb dM_about_31 (by decide) ?_
        refine ln_icmp_ne (tgt := 37) hx hb dM_about_32 (by decide) (by omega) (by omega) (fun c_32 => ?_) (fun c_32 => ?_)
        · skip
          exact absurd rfl c_32
        · skip
          refine lv_iconst (v := nI 0) hx hb dM_about_35 (by decide) ?_
          exact W.iret (v := nI 0) hx hb hr (fun t ht hW => ⟨⟨_, M_3, rfl, ⟨hC.thr eM_3, Or.inr ⟨fun h9 => by have := h9.2.2; simp only [Int32.lt_iff_toInt_lt, Int32.le_iff_toInt_le, nI, Int32.reduceOfNat, Int32.reduceToInt] at c_16 this; omega, by rw [eM_3, va_up_self]; exact m_us⟩⟩, by show va_P _ _ _ t.heap; rw [ht]; exact hP⟩, hS.F ht⟩) hS.2.2 dM_about_36
      · skip
        refine lv_iconst (v := nI 0) hx hb dM_about_19 (by decide) ?_
        refine lv_goto (tgt := 24) hx hb dM_about_20 (by decide) ?_
        refine bw_put (own := RM) (ci := 2) (C := RM) (T := TM) (N := 14) (v := .int (nI 0)) (ty := .int) hx hb hts inM tyM tyM_ok nmM hown hE hI hP hS 0 (by decide) rfl rfl 0 (by decide) w_316 rfl rfl ((upd (M 0).1 0 (nI 0), (M 0).2)) rfl (by decide +kernel) rfl rfl (Nat.le_of_ble_eq_true rfl) dM_about_24 (fun M_4 H locs eM_4 hP hS => ?_)
        refine lv_aload_n hx hb dM_about_27 rfl (lv_at hl 0 rfl) ?_
        refine bw_get (own := RM) (ci := 2) (C := RM) (T := TM) (N := 14) (v := .int ((M_4 0).1 0)) hx hb hts inM hown hE hP 0 (by decide) rfl rfl 0 (by decide) w_316 rfl rfl dM_about_28 ?_
        refine ln_asi (nI 0) (by rw [eM_4, va_up_self]; exact m_us) ?_
        refine lv_iconst (v := nI 1) hx hb dM_about_31 (by decide) ?_
        refine ln_icmp_ne (tgt := 37) hx hb dM_about_32 (by decide) (by omega) (by omega) (fun c_32 => ?_) (fun c_32 => ?_)
        · skip
          have hp9 : pAbt A n q := ⟨hr_3.t c_6, by simp only [Int32.lt_iff_toInt_lt, Int32.le_iff_toInt_le, nI, Int32.reduceOfNat, Int32.reduceToInt] at c_10 c_16 ⊢; omega⟩
          have hr9 : ∀ k, 0 < k → M_4 k = M k := fun k hk => by rw [eM_4, va_up_ne _ _ (by omega)]
          obtain ⟨d, hd, rfl⟩ := rng_lt hp9.1.1 hp9.1.2 (by omega)
          obtain ⟨u, hu, rfl⟩ := rng_lt hp9.2.1 hp9.2.2 (by decide)
          refine lv_iload_n hx hb dM_about_37 rfl (lv_at hl 2 rfl) ?_
          refine lv_if_ne (tgt := 50) hx hb dM_about_38 (by decide) (fun c_38 => ?_) (fun c_38 => ?_)
          · skip
            have hu0 : u ≠ 0 := fun z => c_38 ((nI_z (by omega)).mpr z)
            refine lv_iload_n hx hb dM_about_50 rfl (lv_at hl 2 rfl) ?_
            refine lv_iconst (v := nI 1) hx hb dM_about_51 (by decide) ?_
            refine ln_icmp_ne (tgt := 64) hx hb dM_about_52 (by decide) (by omega) (by omega) (fun c_52 => ?_) (fun c_52 => ?_)
            · skip
              refine lv_iload_n hx hb dM_about_64 rfl (lv_at hl 2 rfl) ?_
              refine lv_iconst (v := nI 2) hx hb dM_about_65 (by decide) ?_
              refine ln_icmp_ne (tgt := 86) hx hb dM_about_66 (by decide) (by omega) (by omega) (fun c_66 => ?_) (fun c_66 => ?_)
              · skip
                refine lv_aload_n hx hb dM_about_86 rfl (lv_at hl 0 rfl) ?_
                refine bw_get (own := RM) (ci := 2) (C := RM) (T := TM) (N := 14) (v := .ref (ad 4)) hx hb hts inM hown hE hP 0 (by decide) rfl rfl 5 (by decide) w_321 rfl rfl dM_about_87 ?_
                refine lv_bipush (v := nI 9) hx hb dM_about_90 (by decide) ?_
                refine lv_iload_n hx hb dM_about_92 rfl (lv_at hl 1 rfl) ?_
                refine ln_imul hx hb dM_about_93 ?_
                refine lv_iload_n hx hb dM_about_94 rfl (lv_at hl 2 rfl) ?_
                refine ln_iadd hx hb dM_about_95 ?_
                refine lv_iconst (v := nI 3) hx hb dM_about_96 (by decide) ?_
                refine ln_isub hx hb dM_about_97 (by omega) ?_
                refine ln_iald (L := 441) (g := (M_4 4).1) hx hb hE hP 4 0 (by decide) (rfl) rfl (by omega) (by decide) dM_about_98 ?_
                exact W.iret (v := (M_4 4).1 (((9 * d) + u) - 3)) hx hb hr (fun t ht hW => ⟨⟨_, M_4, rfl, ⟨hC.thr eM_4, Or.inl ⟨hp9, by rw [eM_4, va_up_self]; exact m_us, by rw [nI_clamp (by omega), nI_clamp (by omega)]; unfold abA; rw [if_neg hu0, if_neg (by omega), if_neg (by omega), hr9 4 (by decide), show 9 * d + u - 3 = 9 * d + (u - 3) by omega]; exact (hrow d hd).2.2.2 (u - 3) (by omega)⟩⟩, by show va_P _ _ _ t.heap; rw [ht]; exact hP⟩, hS.F ht⟩) hS.2.2 dM_about_99
              · skip
                refine lv_aload_n hx hb dM_about_69 rfl (lv_at hl 0 rfl) ?_
                refine bw_get (own := RM) (ci := 2) (C := RM) (T := TM) (N := 14) (v := .ref (ad 3)) hx hb hts inM hown hE hP 0 (by decide) rfl rfl 4 (by decide) w_320 rfl rfl dM_about_70 ?_
                refine lv_iload_n hx hb dM_about_73 rfl (lv_at hl 1 rfl) ?_
                refine ln_zald (L := 48) (g := (M_4 3).1) hx hb hE hP 3 1 (by decide) (rfl) rfl (by omega) (by decide) dM_about_74 ?_
                refine lv_if_eq (tgt := 82) hx hb dM_about_75 (by decide) (fun c_75 => ?_) (fun c_75 => ?_)
                · skip
                  refine lv_iconst (v := nI 0) hx hb dM_about_82 (by decide) ?_
                  refine lv_goto (tgt := 99) hx hb dM_about_83 (by decide) ?_
                  exact W.iret (v := nI 0) hx hb hr (fun t ht hW => ⟨⟨_, M_4, rfl, ⟨hC.thr eM_4, Or.inl ⟨hp9, by rw [eM_4, va_up_self]; exact m_us, by rw [nI_clamp (by omega), nI_clamp (by omega)]; unfold abA; rw [if_neg hu0, if_neg (by omega), if_pos c_66, ← (hrow d hd).2.2.1, ← hr9 3 (by decide)]; rw [if_pos c_75]⟩⟩, by show va_P _ _ _ t.heap; rw [ht]; exact hP⟩, hS.F ht⟩) hS.2.2 dM_about_99
                · skip
                  refine lv_iconst (v := nI 1) hx hb dM_about_78 (by decide) ?_
                  refine lv_goto (tgt := 99) hx hb dM_about_79 (by decide) ?_
                  exact W.iret (v := nI 1) hx hb hr (fun t ht hW => ⟨⟨_, M_4, rfl, ⟨hC.thr eM_4, Or.inl ⟨hp9, by rw [eM_4, va_up_self]; exact m_us, by rw [nI_clamp (by omega), nI_clamp (by omega)]; unfold abA; rw [if_neg hu0, if_neg (by omega), if_pos c_66, ← (hrow d hd).2.2.1, ← hr9 3 (by decide)]; rw [if_neg c_75]⟩⟩, by show va_P _ _ _ t.heap; rw [ht]; exact hP⟩, hS.F ht⟩) hS.2.2 dM_about_99
            · skip
              refine lv_aload_n hx hb dM_about_55 rfl (lv_at hl 0 rfl) ?_
              refine bw_get (own := RM) (ci := 2) (C := RM) (T := TM) (N := 14) (v := .ref (ad 2)) hx hb hts inM hown hE hP 0 (by decide) rfl rfl 3 (by decide) w_319 rfl rfl dM_about_56 ?_
              refine lv_iload_n hx hb dM_about_59 rfl (lv_at hl 1 rfl) ?_
              refine ln_iald (L := 48) (g := (M_4 2).1) hx hb hE hP 2 0 (by decide) (rfl) rfl (by omega) (by decide) dM_about_60 ?_
              refine lv_goto (tgt := 99) hx hb dM_about_61 (by decide) ?_
              exact W.iret (v := (M_4 2).1 d) hx hb hr (fun t ht hW => ⟨⟨_, M_4, rfl, ⟨hC.thr eM_4, Or.inl ⟨hp9, by rw [eM_4, va_up_self]; exact m_us, by rw [nI_clamp (by omega), nI_clamp (by omega)]; unfold abA; rw [if_neg hu0, if_pos c_52, hr9 2 (by decide)]; exact (hrow d hd).2.1⟩⟩, by show va_P _ _ _ t.heap; rw [ht]; exact hP⟩, hS.F ht⟩) hS.2.2 dM_about_99
          · skip
            have hu0 : u = 0 := (nI_z (by omega)).mp c_38
            refine lv_aload_n hx hb dM_about_41 rfl (lv_at hl 0 rfl) ?_
            refine bw_get (own := RM) (ci := 2) (C := RM) (T := TM) (N := 14) (v := .ref (ad 1)) hx hb hts inM hown hE hP 0 (by decide) rfl rfl 2 (by decide) w_318 rfl rfl dM_about_42 ?_
            refine lv_iload_n hx hb dM_about_45 rfl (lv_at hl 1 rfl) ?_
            refine ln_iald (L := 48) (g := (M_4 1).1) hx hb hE hP 1 0 (by decide) (rfl) rfl (by omega) (by decide) dM_about_46 ?_
            refine lv_goto (tgt := 99) hx hb dM_about_47 (by decide) ?_
            exact W.iret (v := (M_4 1).1 d) hx hb hr (fun t ht hW => ⟨⟨_, M_4, rfl, ⟨hC.thr eM_4, Or.inl ⟨hp9, by rw [eM_4, va_up_self]; exact m_us, by rw [nI_clamp (by omega), nI_clamp (by omega)]; unfold abA; rw [if_pos hu0, hr9 1 (by decide)]; exact (hrow d hd).1⟩⟩, by show va_P _ _ _ t.heap; rw [ht]; exact hP⟩, hS.F ht⟩) hS.2.2 dM_about_99
        · skip
          exact absurd c_32 (by decide)
