/-! seen, inOrder (the class) -/
def sawB (A : Ab) (n : Nat) : Bool := !(aK A n == 0) && jopn (aP A) (aH A) n
def cntB (S : Nat → Bool) : Nat → Nat
  | 0 => 0
  | n + 1 => cntB S n + (if S n = true then 1 else 0)
theorem cntB_le (S : Nat → Bool) : ∀ n, cntB S n ≤ n
  | 0 => Nat.le_refl _
  | n + 1 => by
    have := cntB_le S n
    rw [cntB]
    split <;> omega
def adep (A : Ab) (n : Nat) : Int32 := jprod (jview (aE A)) (jworld (aP A) (fun n => jlocal (aU A n)) n) 2 3
def oAns (A : Ab) (k r : Int32) : Prop := (0 ≤ k ∧ k < nI (aN A) → ∃ z o, srt (ky1 (aK A)) (ky2 (aK A) (adep A)) (fun n => sawB A n = true) (aN A) z o ∧ ∃ v, v < aN A ∧ k = nI v ∧ ((v < z ∧ r = nI (o v)) ∨ (z ≤ v ∧ r = (-1)))) ∧ (¬ (0 ≤ k ∧ k < nI (aN A)) → r = (-1))
theorem jopn_congr {par par' hid hid' : Nat → Int32} {N : Nat} (hp : pOk par N) (hN : N < 2147483648) (h1 : ∀ n, n < N → par' n = par n) (h2 : ∀ n, n < N → hid' n = hid n) : ∀ n, n < N → jopn par' hid' n = jopn par hid n := by
  have hp' : pOk par' N := fun n hn => by rw [h1 n hn]; exact hp n hn
  intro n
  induction n using Nat.strongRecOn with
  | _ n ih =>
    intro hn
    rcases hp n hn with h | ⟨q, hq, h⟩
    · rw [jopn_root h, jopn_root (by rw [h1 n hn]; exact h), h2 n hn]
    · rw [jopn_at hp hN hn hq h, jopn_at hp' hN hn hq (by rw [h1 n hn]; exact h), h2 n hn, ih q hq (by omega)]
theorem srt_congr {k1 k2 k1' k2' : Nat → Int} {S S' : Nat → Prop} {d z : Nat} {o : Nat → Nat} (h : srt k1 k2 S d z o) (h1 : ∀ n, n < d → k1' n = k1 n) (h2 : ∀ n, n < d → k2' n = k2 n) (h3 : ∀ n, n < d → (S' n ↔ S n)) : srt k1' k2' S' d z o := by
  refine ⟨fun i hi => ⟨(h.1 i hi).1, (h3 _ (h.1 i hi).1).mpr (h.1 i hi).2⟩, fun i j hij hj => ?_, fun n hn hs => h.2.2 n hn ((h3 n hn).mp hs)⟩
  have a := (h.1 i (by omega)).1
  have b := (h.1 j hj).1
  have c := h.2.1 i j hij hj
  unfold ltK at c ⊢
  rw [h1 _ a, h1 _ b, h2 _ a, h2 _ b]
  exact c
theorem Cls.cache {A : Ab} {M M1 : Nat → Nat → Int32} (h : Cls A M) (f : ∀ q, 0 < q → q ≠ 153 → q ≠ 154 → q ≠ 155 → (q < 103 ∨ 151 ≤ q) → M1 q = M q) (f0 : ∀ t, t ≠ 7 → M1 0 t = M 0 t) (hw : ∃ r, r ≤ aN A ∧ M1 0 7 = nI r ∧ wOk M1 r) : Cls A M1 := by
  obtain ⟨a1, a2, a3, a4, a5, a6, -⟩ := h
  have hN := a1.1
  refine ⟨a1, by rw [f0 0 (by decide)]; exact a2, fun n hn => ?_, fun i hi => by rw [f 151 (by decide) (by decide) (by decide) (by decide) (by decide)]; exact a4 i hi, fun t ht => by rw [f 152 (by decide) (by decide) (by decide) (by decide) (by decide)]; exact a5 t ht, sTZ_keep a6 (fun q h1 _ => f q (by omega) (by omega) (by omega) (by omega) (by omega)), hw⟩
  obtain ⟨b1, b2, b3, b4, b5⟩ := a3 n hn
  exact ⟨by rw [f 1 (by decide) (by decide) (by decide) (by decide) (by decide)]; exact b1, by rw [f 2 (by decide) (by decide) (by decide) (by decide) (by decide)]; exact b2, by rw [f 3 (by decide) (by decide) (by decide) (by decide) (by decide)]; exact b3, fun i hi => by rw [f (5 + n) (by omega) (by omega) (by omega) (by omega) (by omega)]; exact b4 i hi, fun t ht => by rw [f (54 + n) (by omega) (by omega) (by omega) (by omega) (by omega)]; exact b5 t ht⟩
theorem Cls.saw {A : Ab} {M : Nat → Nat → Int32} (h : Cls A M) {n : Nat} (hn : n < aN A) : (¬ M 2 n = 0 ∧ jopn (M 1) (M 3) n = true) ↔ sawB A n = true := by
  have hN := h.1.1
  rw [jopn_congr (h.1.2.1) (by omega) (fun k hk => (h.2.2.1 k hk).1) (fun k hk => (h.2.2.1 k hk).2.2.1) n hn, (h.2.2.1 n hn).2.1]
  unfold sawB
  simp
theorem Cls.marked {A : Ab} {M M1 : Nat → Nat → Int32} (h : Cls A M) (hm : oInv M M1 (aN A)) : Cls A M1 := by
  have hpk := h.pok
  obtain ⟨-, -, -, -, -, -, r, hr, h7, hw⟩ := id h
  have hN := h.1.1
  exact h.cache (fun q _ h1 _ _ _ => hm.1 q h1) (fun t _ => by rw [hm.1 0 (by decide)]) ⟨r, hr, by rw [hm.1 0 (by decide)]; exact h7, wOk_keep hw (Nat.le_refl _) (by omega) (pOk_le hpk hr) (fun n _ => by rw [hm.1 1 (by decide)]) (fun n hn t _ => by rw [hm.1 (54 + n) (by omega)]) (fun n hn t _ => by rw [hm.1 (103 + n) (by omega)])⟩
theorem Cls.sawM {A : Ab} {M M1 : Nat → Nat → Int32} (h : Cls A M) (hm : oInv M M1 (aN A)) {n : Nat} (hn : n < aN A) : (¬ M1 2 n = 0 ∧ ¬ M1 153 n = 0) ↔ sawB A n = true := by
  rw [← h.saw hn, hm.1 2 (by decide), hm.2 n hn]
  cases jopn (M 1) (M 3) n with
  | true => simp
  | false => simp
theorem Cls.dep {A : Ab} {M : Nat → Nat → Int32} (h : Cls A M) {n : Nat} (hn : n < aN A) : jprod (M 152) (jworld (M 1) (fun n => M (54 + n)) n) 2 3 = adep A n := by
  have hN := h.1.1
  unfold adep
  exact jprod_congr h.2.2.2.2.1 (jworld_congr (h.1.2.1) (by omega) (fun k hk => (h.2.2.1 k hk).1) (fun k hk => (h.2.2.1 k hk).2.2.2.2) n hn) (by decide) (by decide)
theorem Cls.put {A : Ab} {M M0 M1 : Nat → Nat → Int32} {r0 z : Nat} {o : Nat → Nat} (h : Cls A M) (hr0 : r0 ≤ aN A) (hR : oInvR M M0 (aN A) r0) (hp : pInv M0 M1 (fun n => ¬ M 2 n = 0 ∧ jopn (M 1) (M 3) n = true) (fun n => jprod (M 152) (jworld (M 1) (fun n => M (54 + n)) n) 2 3) (aN A) z o) : Cls A M1 ∧ srt (ky1 (aK A)) (ky2 (aK A) (adep A)) (fun n => sawB A n = true) (aN A) z o := by
  have hN := h.1.1
  have hpk := h.pok
  obtain ⟨a1, a2, a3, a4, a5⟩ := hR
  obtain ⟨b1, b2, b3, b4, b5⟩ := hp
  have e2 : ∀ n, n < aN A → M0 2 n = aK A n := fun n hn => by rw [a1 2 (by decide) (by decide) (by decide)]; exact (h.2.2.1 n hn).2.1
  have hm : max r0 (aN A) = aN A := by omega
  rw [hm] at a3 a4
  refine ⟨h.cache (fun q h0 h1 h2 h3 h4 => by rw [b1 q h2 h3]; exact a1 q h0 h1 h4) (fun t ht => by rw [b1 0 (by decide) (by decide)]; exact a2 t ht) ⟨aN A, Nat.le_refl _, by rw [b1 0 (by decide) (by decide)]; exact a3, ?_⟩, srt_congr b5 (fun n hn => by unfold ky1; rw [e2 n hn]) (fun n hn => by unfold ky2; rw [e2 n hn, ← h.dep hn]) (fun n hn => (h.saw hn).symm)⟩
  refine wOk_keep a4 (Nat.le_refl _) (by omega) ?_ (fun n _ => by rw [b1 1 (by decide) (by decide)]) (fun n hn t _ => by rw [b1 (54 + n) (by omega) (by omega)]) (fun n hn t _ => by rw [b1 (103 + n) (by omega) (by omega)])
  rw [a1 1 (by decide) (by decide) (by decide)]
  exact hpk

set_option maxHeartbeats 4000000 in
set_option maxRecDepth 100000 in
theorem kS_seen (l : Launch) (D : va_G) (cs : Nat → ClassId) (ad : Nat → Nat) (hI : bw_I ad 162) (M : Nat → Nat → Int32) (sz : Nat) (A : Ab) (hC : Cls A M)  : Met l yS_seen (wc yS_seen cS_seen 3 (some .int)) ({ frames := 1, cells := 0, slots := 0, locals := 22 } : Room) (va_Pc [.ref (ad 0)] (sP D cs ad M sz)) (bQi D ad 162 (sc_cell cs ad) sz (fun r M1 => r = nI (cntB (sawB A) (aN A)) ∧ Cls A M1)) 0 0 (bw_A ad 162 sz) := by
  refine Met.ofW (cc := cS_seen) (maxL := 3) (ret := (some .int)) (by decide +kernel) rfl ?_
  intro p e s m args below meth c s₁ B hml hv
  obtain ⟨rfl, hsz, hP, hE⟩ := hv
  subst hsz
  have hx := B.exec
  have hb := B.bytes
  have hr := B.returns
  have hts : ∀ w9 ∈ ws_all, w9.before ([.ref (ad 0)] : List Value).toArray s = true := fun w9 h => atoms_spec (ws := (wc yS_seen cS_seen 3 (some .int))) B.pre w9 (List.mem_cons_of_mem _ h)
  have hown : s.vm.findClass RS = some m.cls := findClass_of_methodNamed B.named
  have hlocks := B.notSynchronized
  have hS : va_S (bw_A ad 162 s.heap.size) s.heap s.heap [] := va_S.rf
  have hl := lv_entry ([.ref (ad 0)]) (n := 3) (Nat.le_of_ble_eq_true rfl)
  rw [lg_entry_eq]
  generalize (lg_sl ([.ref (ad 0)]) ++ List.replicate (3 - (lg_sl ([.ref (ad 0)])).length) Slot.unset).toArray = ls at hl ⊢
  have hl : lv_has ls 3 [(0, .ref (ad 0))] := hl
  obtain ⟨hA, hn, hrow, heye, hview, hz, rr, hrr, hr7, hw⟩ := id hC
  have hN : aN A ≤ 48 := hA.1
  refine lv_aload_n hx hb dS_seen_0 rfl (lv_at hl 0 rfl) ?_
  refine bc_callv (bc_runV (own := RS) (C := RS) (As := []) (rest := []) hx hb (hml.trans hl.1.symm) hown hts (kS_markOpen l D cs ad hI M s.heap.size (aN A) hN hn hC.pok) w_188 w_185 w_187 ws_sel_S_markOpen w_1 ⟨rfl, hd_S_markOpen⟩ rfl ⟨rfl, rfl⟩ ⟨Nat.le_of_ble_eq_true rfl, Nat.le_of_ble_eq_true rfl⟩ (fun _ _ _ _ h => h.calling) (bc_recv (r := (RS, TS, 14)) hE hP 0 (by decide) rfl rfl) (fun U hU hW => ⟨by rw [hU], by rw [hU]; exact hP, hE.warm hW⟩) rfl (Nat.le_of_ble_eq_true rfl) dS_seen_1 ⟨Nat.le_of_ble_eq_true rfl, Nat.le_of_ble_eq_true rfl⟩) hS (fun M_1 H locs hr_1 hP hS => ?_)
  refine lv_iconst (v := nI 0) hx hb dS_seen_4 (by decide) ?_
  refine lv_istore_n (lv' := [(1, .int (nI 0)), (0, .ref (ad 0))]) hx hb dS_seen_5 rfl hl (by decide) rfl (fun ls hl => ?_)
  refine lv_iconst (v := nI 0) hx hb dS_seen_6 (by decide) ?_
  refine lv_istore_n (lv' := [(2, .int (nI 0)), (1, .int (nI 0)), (0, .ref (ad 0))]) hx hb dS_seen_7 rfl hl (by decide) rfl (fun ls hl => ?_)
  have loop : ∀ k : Nat, (∀ (z : Nat) (d : Nat)  (M1 : Nat → Nat → Int32) (H : Heap) (locs : List Loc) (ls : Array Slot), d ≤ aN A → M1 = M_1 ∧ z = cntB (sawB A) d → aN A - d < k → va_P D cls3 (bw ad 162 (fun j => sc_cell cs ad j (M1 j))) H → va_S (bw_A ad 162 s.heap.size) s.heap H locs → lv_has ls 3 [(1, .int (nI z)), (2, .int (nI d)), (0, .ref (ad 0))] → W p l e (headSpec (wc yS_seen cS_seen 3 (some .int)) ({ frames := 1, cells := 0, slots := 0, locals := 22 } : Room)).room s m ([.ref (ad 0)] : List Value).toArray below meth c H locs 0 0 (MQ below (bQi D ad 162 (sc_cell cs ad) s.heap.size (fun r M1 => r = nI (cntB (sawB A) (aN A)) ∧ Cls A M1)) ([.ref (ad 0)] : List Value).toArray s 0 0 (bw_A ad 162 s.heap.size)) (F0 m 8 ls [])) := by
    intro k
    induction k with
    | zero => exact by intros; omega
    | succ k ih =>
      intro z d  M1 H locs ls hd hinv hmu hP hS hl
      refine lv_iload_n hx hb dS_seen_8 rfl (lv_at hl 1 rfl) ?_
      refine lv_aload_n hx hb dS_seen_9 rfl (lv_at hl 2 rfl) ?_
      refine bw_get (own := RS) (ci := 1) (C := RS) (T := TS) (N := 14) (v := .int (M1 0 0)) hx hb hts inS hown hE hP 0 (by decide) rfl rfl 0 (by decide) w_88 rfl rfl dS_seen_10 ?_
      refine ln_asi (nI (aN A)) (by rw [hinv.1, hr_1.1 0 (by decide)]; exact hn) ?_
      refine ln_icmp_ge (tgt := 33) hx hb dS_seen_13 (by decide) (by omega) (by omega) (fun c_13 => ?_) (fun c_13 => ?_)
      · skip
        refine lv_iload_n hx hb dS_seen_33 rfl (lv_at hl 0 rfl) ?_
        exact W.iret (v := nI z) hx hb hr (fun t ht hW => ⟨⟨_, M1, rfl, ⟨by rw [hinv.2, show d = aN A by omega], by rw [hinv.1]; exact hC.marked hr_1⟩, by show va_P _ _ _ t.heap; rw [ht]; exact hP⟩, hS.F ht⟩) hS.2.2 dS_seen_34
      · skip
        refine lv_aload_n hx hb dS_seen_16 rfl (lv_at hl 2 rfl) ?_
        refine lv_iload_n hx hb dS_seen_17 rfl (lv_at hl 1 rfl) ?_
        refine vp_callSi (va_Run.run (bc_runV (own := RS) (C := RS) (As := [.int (nI d)]) (rest := []) hx hb (hml.trans hl.1.symm) hown hts (kS_isSeen l D cs ad hI M1 H.size d (by omega)) w_192 w_189 w_191 ws_sel_S_isSeen w_1 ⟨rfl, hd_S_isSeen⟩ rfl ⟨rfl, rfl⟩ ⟨Nat.le_of_ble_eq_true rfl, Nat.le_of_ble_eq_true rfl⟩ (fun _ _ _ _ h => h.calling) (bc_recv (r := (RS, TS, 14)) hE hP 0 (by decide) rfl rfl) (fun U hU hW => ⟨by rw [hU], by rw [hU]; exact hP, hE.warm hW⟩) rfl (Nat.le_of_ble_eq_true rfl) dS_seen_18 ⟨Nat.le_of_ble_eq_true rfl, Nat.le_of_ble_eq_true rfl⟩)) (fun r_18 hr_18 => ?_)
        rw [hinv.1] at hr_18
        refine lv_if_eq (tgt := 27) hx hb dS_seen_21 (by decide) (fun c_21 => ?_) (fun c_21 => ?_)
        · skip
          refine lv_iinc (v := nI (d + 1)) (lv' := [(2, .int (nI (d + 1))), (1, .int (nI z)), (0, .ref (ad 0))]) hx hb dS_seen_27 hl (k := 1) rfl (nI_add d 1) (by decide) rfl (fun ls hl => ?_)
          refine lv_goto (tgt := 8) hx hb dS_seen_30 (by decide) ?_
          exact ih z (d + 1)  M1 H locs ls (by omega) (⟨hinv.1, by rw [cntB, if_neg (fun q => hr_18.f c_21 ((hC.sawM hr_1 (by omega)).mpr q))]; exact hinv.2⟩) (by omega) hP hS (lv_sub hl [1, 0, 2] rfl)
        · skip
          refine lv_iinc (v := nI (z + 1)) (lv' := [(1, .int (nI (z + 1))), (2, .int (nI d)), (0, .ref (ad 0))]) hx hb dS_seen_24 hl (k := 0) rfl (nI_add z 1) (by decide) rfl (fun ls hl => ?_)
          refine lv_iinc (v := nI (d + 1)) (lv' := [(2, .int (nI (d + 1))), (1, .int (nI (z + 1))), (0, .ref (ad 0))]) hx hb dS_seen_27 hl (k := 1) rfl (nI_add d 1) (by decide) rfl (fun ls hl => ?_)
          refine lv_goto (tgt := 8) hx hb dS_seen_30 (by decide) ?_
          exact ih (z + 1) (d + 1)  M1 H locs ls (by omega) (⟨hinv.1, by rw [cntB, if_pos ((hC.sawM hr_1 (by omega)).mp (hr_18.t c_21)), hinv.2]⟩) (by omega) hP hS (lv_sub hl [1, 0, 2] rfl)
  exact (loop 100000) 0 0  M_1 H locs ls (by omega) (⟨rfl, rfl⟩) (by omega) hP hS (lv_sub hl [1, 0, 2] rfl)

set_option maxHeartbeats 4000000 in
set_option maxRecDepth 100000 in
theorem kS_inOrder (l : Launch) (D : va_G) (cs : Nat → ClassId) (ad : Nat → Nat) (hI : bw_I ad 162) (M : Nat → Nat → Int32) (sz : Nat) (A : Ab) (hC : Cls A M) (k : Int32)  : Met l yS_inOrder (wc yS_inOrder cS_inOrder 3 (some .int)) ({ frames := 6, cells := 0, slots := 0, locals := 133 } : Room) (va_Pc [.ref (ad 0), .int k] (sP D cs ad M sz)) (bQi D ad 162 (sc_cell cs ad) sz (fun r M1 => oAns A k r ∧ Cls A M1)) 0 0 (bw_A ad 162 sz) := by
  refine Met.ofW (cc := cS_inOrder) (maxL := 3) (ret := (some .int)) (by decide +kernel) rfl ?_
  intro p e s m args below meth c s₁ B hml hv
  obtain ⟨rfl, hsz, hP, hE⟩ := hv
  subst hsz
  have hx := B.exec
  have hb := B.bytes
  have hr := B.returns
  have hts : ∀ w9 ∈ ws_all, w9.before ([.ref (ad 0), .int k] : List Value).toArray s = true := fun w9 h => atoms_spec (ws := (wc yS_inOrder cS_inOrder 3 (some .int))) B.pre w9 (List.mem_cons_of_mem _ h)
  have hown : s.vm.findClass RS = some m.cls := findClass_of_methodNamed B.named
  have hlocks := B.notSynchronized
  have hS : va_S (bw_A ad 162 s.heap.size) s.heap s.heap [] := va_S.rf
  have hl := lv_entry ([.ref (ad 0), .int k]) (n := 3) (Nat.le_of_ble_eq_true rfl)
  rw [lg_entry_eq]
  generalize (lg_sl ([.ref (ad 0), .int k]) ++ List.replicate (3 - (lg_sl ([.ref (ad 0), .int k])).length) Slot.unset).toArray = ls at hl ⊢
  have hl : lv_has ls 3 [(0, .ref (ad 0)), (1, .int k)] := hl
  obtain ⟨hA, hn, hrow, heye, hview, hz, rr, hrr, hr7, hw⟩ := id hC
  have hN : aN A ≤ 48 := hA.1
  refine lv_iload_n hx hb dS_inOrder_0 rfl (lv_at hl 1 rfl) ?_
  refine lv_if_lt (tgt := 12) hx hb dS_inOrder_1 (by decide) (fun c_1 => ?_) (fun c_1 => ?_)
  · skip
    refine lv_iconst (v := (-1)) hx hb dS_inOrder_12 (by decide) ?_
    exact W.iret (v := (-1)) hx hb hr (fun t ht hW => ⟨⟨_, M, rfl, ⟨⟨fun h9 => absurd h9.1 (by simp only [Int32.lt_iff_toInt_lt, Int32.le_iff_toInt_le, nI, Int32.reduceOfNat, Int32.reduceToInt] at c_1 ⊢; omega), fun _ => rfl⟩, hC⟩, by show va_P _ _ _ t.heap; rw [ht]; exact hP⟩, hS.F ht⟩) hS.2.2 dS_inOrder_13
  · skip
    refine lv_iload_n hx hb dS_inOrder_4 rfl (lv_at hl 1 rfl) ?_
    refine lv_aload_n hx hb dS_inOrder_5 rfl (lv_at hl 0 rfl) ?_
    refine bw_get (own := RS) (ci := 1) (C := RS) (T := TS) (N := 14) (v := .int (M 0 0)) hx hb hts inS hown hE hP 0 (by decide) rfl rfl 0 (by decide) w_88 rfl rfl dS_inOrder_6 ?_
    refine ln_asi (nI (aN A)) (by exact hn) ?_
    refine lv_icmp_lt (tgt := 14) hx hb dS_inOrder_9 (by decide) (fun c_9 => ?_) (fun c_9 => ?_)
    · skip
      have hk9 : 0 ≤ k ∧ k < nI (aN A) := by simp only [Int32.lt_iff_toInt_lt, Int32.le_iff_toInt_le, nI, Int32.reduceOfNat, Int32.reduceToInt] at c_1 ⊢; exact ⟨by omega, by simpa only [Int32.lt_iff_toInt_lt, Int32.le_iff_toInt_le, nI, Int32.reduceOfNat, Int32.reduceToInt] using c_9⟩
      obtain ⟨v, hv, rfl⟩ := rng_lt hk9.1 hk9.2 (by omega)
      refine lv_aload_n hx hb dS_inOrder_14 rfl (lv_at hl 0 rfl) ?_
      refine bc_calli (bc_runV (own := RS) (C := RS) (As := []) (rest := []) hx hb (hml.trans hl.1.symm) hown hts (kS_putInOrder l D cs ad hI M s.heap.size (aN A) rr hN hn hrr hC.pok hr7 hw hC.kok) w_200 w_197 w_199 ws_sel_S_putInOrder w_1 ⟨rfl, hd_S_putInOrder⟩ rfl ⟨rfl, rfl⟩ ⟨Nat.le_of_ble_eq_true rfl, Nat.le_of_ble_eq_true rfl⟩ (fun _ _ _ _ h => h.calling) (bc_recv (r := (RS, TS, 14)) hE hP 0 (by decide) rfl rfl) (fun U hU hW => ⟨by rw [hU], by rw [hU]; exact hP, hE.warm hW⟩) rfl (Nat.le_of_ble_eq_true rfl) dS_inOrder_15 ⟨Nat.le_of_ble_eq_true rfl, Nat.le_of_ble_eq_true rfl⟩) hS (fun r_15 M_1 H locs hr_15 hP hS => ?_)
      obtain ⟨z, o, M0, hz15, hR, hpI⟩ := hr_15
      have hz9 : z ≤ aN A := hpI.2.1
      obtain ⟨hC1, hsr⟩ := hC.put hrr hR hpI
      refine ln_asi (nI z) (by exact hz15) ?_
      refine lv_istore_n (lv' := [(2, .int (nI z)), (0, .ref (ad 0)), (1, .int (nI v))]) hx hb dS_inOrder_18 rfl hl (by decide) rfl (fun ls hl => ?_)
      refine lv_iload_n hx hb dS_inOrder_19 rfl (lv_at hl 2 rfl) ?_
      refine lv_iload_n hx hb dS_inOrder_20 rfl (lv_at hl 0 rfl) ?_
      refine ln_icmp_ge (tgt := 33) hx hb dS_inOrder_21 (by decide) (by omega) (by omega) (fun c_21 => ?_) (fun c_21 => ?_)
      · skip
        refine lv_iconst (v := (-1)) hx hb dS_inOrder_33 (by decide) ?_
        exact W.iret (v := (-1)) hx hb hr (fun t ht hW => ⟨⟨_, M_1, rfl, ⟨⟨fun _ => ⟨z, o, hsr, v, hv, rfl, Or.inr ⟨c_21, rfl⟩⟩, fun h9 => absurd hk9 h9⟩, hC1⟩, by show va_P _ _ _ t.heap; rw [ht]; exact hP⟩, hS.F ht⟩) hS.2.2 dS_inOrder_34
      · skip
        refine lv_aload_n hx hb dS_inOrder_24 rfl (lv_at hl 1 rfl) ?_
        refine bw_get (own := RS) (ci := 1) (C := RS) (T := TS) (N := 14) (v := .ref (ad 155)) hx hb hts inS hown hE hP 0 (by decide) rfl rfl 12 (by decide) w_100 rfl rfl dS_inOrder_25 ?_
        refine lv_iload_n hx hb dS_inOrder_28 rfl (lv_at hl 2 rfl) ?_
        refine ln_iald (L := 48) (g := (M_1 155)) hx hb hE hP 155 0 (by decide) (rfl) rfl (by omega) (by decide) dS_inOrder_29 ?_
        refine lv_goto (tgt := 34) hx hb dS_inOrder_30 (by decide) ?_
        exact W.iret (v := M_1 155 v) hx hb hr (fun t ht hW => ⟨⟨_, M_1, rfl, ⟨⟨fun _ => ⟨z, o, hsr, v, hv, rfl, Or.inl ⟨c_21, hpI.2.2.2.1 v c_21⟩⟩, fun h9 => absurd hk9 h9⟩, hC1⟩, by show va_P _ _ _ t.heap; rw [ht]; exact hP⟩, hS.F ht⟩) hS.2.2 dS_inOrder_34
    · skip
      refine lv_iconst (v := (-1)) hx hb dS_inOrder_12 (by decide) ?_
      exact W.iret (v := (-1)) hx hb hr (fun t ht hW => ⟨⟨_, M, rfl, ⟨⟨fun h9 => absurd h9.2 c_9, fun _ => rfl⟩, hC⟩, by show va_P _ _ _ t.heap; rw [ht]; exact hP⟩, hS.F ht⟩) hS.2.2 dS_inOrder_13
