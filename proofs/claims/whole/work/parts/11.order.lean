/-! THE ORDER (the class): insertion by a total order of keys -/
def ky1 (kd : Nat → Int32) (a : Nat) : Int := (kd a).toInt
def ky2 (kd dp : Nat → Int32) (a : Nat) : Int := if kd a = nI 1 then (dp a).toInt else -(dp a).toInt
/-- the document's order: solid ones first, by their depths; equal ones by their numbers -/
def ltK (k1 k2 : Nat → Int) (a b : Nat) : Prop := k1 a < k1 b ∨ (k1 a = k1 b ∧ (k2 a < k2 b ∨ (k2 a = k2 b ∧ a < b)))
theorem jbef_key {kd dp : Nat → Int32} {a b : Nat} (ha : kd a = nI 1 ∨ kd a = nI 2) (hb : kd b = nI 1 ∨ kd b = nI 2) : jbef kd dp a b ↔ (ky1 kd a < ky1 kd b ∨ (ky1 kd a = ky1 kd b ∧ ky2 kd dp a < ky2 kd dp b)) := by
  have e1 : (nI 1).toInt = 1 := by decide
  have e2 : (nI 2).toInt = 2 := by decide
  have n12 : ¬ nI 1 = nI 2 := by decide
  have n21 : ¬ nI 2 = nI 1 := by decide
  unfold jbef ky1 ky2
  rcases ha with ha | ha <;> rcases hb with hb | hb <;> rw [ha, hb]
  · rw [if_pos rfl, if_pos rfl, if_pos rfl, if_pos rfl, Int32.lt_iff_toInt_lt]
    exact ⟨fun h => Or.inr ⟨rfl, h⟩, fun h => by rcases h with h | h; exact absurd h (Int.lt_irrefl _); exact h.2⟩
  · rw [if_neg n12]
    exact ⟨fun _ => Or.inl (by rw [e1, e2]; decide), fun _ => rfl⟩
  · rw [if_neg n21]
    exact ⟨fun h => absurd h n21, fun h => by rw [e1, e2] at h; omega⟩
  · rw [if_pos rfl, if_neg n21, if_neg n21, if_neg n21, Int32.lt_iff_toInt_lt]
    exact ⟨fun h => Or.inr ⟨rfl, by omega⟩, fun h => by rcases h with h | h; exact absurd h (Int.lt_irrefl _); omega⟩
/-- o lists the S below d, z of them, in order -/
def srt (k1 k2 : Nat → Int) (S : Nat → Prop) (d z : Nat) (o : Nat → Nat) : Prop := (∀ i, i < z → o i < d ∧ S (o i)) ∧ (∀ i j, i < j → j < z → ltK k1 k2 (o i) (o j)) ∧ ∀ n, n < d → S n → ∃ i, i < z ∧ o i = n
def jins (o : Nat → Nat) (d pl : Nat) : Nat → Nat := fun j => if j < pl then o j else if j = pl then d else o (j - 1)
theorem srt_skip {k1 k2 : Nat → Int} {S : Nat → Prop} {d z : Nat} {o : Nat → Nat} (h : srt k1 k2 S d z o) (hd : ¬ S d) : srt k1 k2 S (d + 1) z o := by
  refine ⟨fun i hi => ⟨by have := (h.1 i hi).1; omega, (h.1 i hi).2⟩, h.2.1, fun n hn hs => ?_⟩
  by_cases e : n = d
  · subst e; exact absurd hs hd
  · exact h.2.2 n (by omega) hs
theorem srt_ins {k1 k2 : Nat → Int} {S : Nat → Prop} {d z pl : Nat} {o : Nat → Nat} (h : srt k1 k2 S d z o) (hd : S d) (hpl : pl ≤ z) (hb : ∀ j, pl ≤ j → j < z → k1 d < k1 (o j) ∨ (k1 d = k1 (o j) ∧ k2 d < k2 (o j))) (ha : pl = 0 ∨ ¬ (k1 d < k1 (o (pl - 1)) ∨ (k1 d = k1 (o (pl - 1)) ∧ k2 d < k2 (o (pl - 1))))) : srt k1 k2 S (d + 1) (z + 1) (jins o d pl) := by
  have hlow : ∀ j, j < pl → ltK k1 k2 (o j) d := by
    intro j hj
    rcases ha with ha | ha
    · omega
    · have h1 : ltK k1 k2 (o (pl - 1)) d := by
        have := (h.1 (pl - 1) (by omega)).1
        unfold ltK; omega
      by_cases e : j = pl - 1
      · rw [e]; exact h1
      · have h2 := h.2.1 j (pl - 1) (by omega) (by omega)
        unfold ltK at h1 h2 ⊢; omega
  have hhigh : ∀ j, pl ≤ j → j < z → ltK k1 k2 d (o j) := by
    intro j h1 h2
    have := hb j h1 h2
    unfold ltK; omega
  refine ⟨fun i hi => ?_, fun i j hij hj => ?_, fun n hn hs => ?_⟩
  · unfold jins
    by_cases c1 : i < pl
    · rw [if_pos c1]; exact ⟨by have := (h.1 i (by omega)).1; omega, (h.1 i (by omega)).2⟩
    · rw [if_neg c1]
      by_cases c2 : i = pl
      · rw [if_pos c2]; exact ⟨by omega, hd⟩
      · rw [if_neg c2]; exact ⟨by have := (h.1 (i - 1) (by omega)).1; omega, (h.1 (i - 1) (by omega)).2⟩
  · unfold jins
    by_cases c1 : j < pl
    · rw [if_pos c1, if_pos (by omega)]; exact h.2.1 i j hij (by omega)
    · rw [if_neg c1]
      by_cases c2 : j = pl
      · rw [if_pos c2, if_pos (by omega)]; exact hlow i (by omega)
      · rw [if_neg c2]
        by_cases c3 : i < pl
        · rw [if_pos c3]; exact h.2.1 i (j - 1) (by omega) (by omega)
        · rw [if_neg c3]
          by_cases c4 : i = pl
          · rw [if_pos c4]; exact hhigh (j - 1) (by omega) (by omega)
          · rw [if_neg c4]; exact h.2.1 (i - 1) (j - 1) (by omega) (by omega)
  · by_cases e : n = d
    · exact ⟨pl, by omega, by unfold jins; rw [if_neg (by omega), if_pos rfl, e]⟩
    · obtain ⟨i, hi, hoi⟩ := h.2.2 n (by omega) hs
      by_cases c1 : i < pl
      · exact ⟨i, by omega, by unfold jins; rw [if_pos c1]; exact hoi⟩
      · exact ⟨i + 1, by omega, by unfold jins; rw [if_neg (by omega), if_neg (by omega)]; exact hoi⟩
def iInv (M M1 : Nat → Nat → Int32) (d z pl : Nat) (o : Nat → Nat) : Prop := (∀ q, q ≠ 155 → M1 q = M q) ∧ (∀ j, j < pl → M1 155 j = M 155 j) ∧ (∀ j, pl < j → j ≤ z → M1 155 j = M 155 (j - 1)) ∧ ∀ j, pl ≤ j → j < z → jbef (M 2) (M 154) d (o j)
/-- what insert leaves -/
def iPost (M M1 : Nat → Nat → Int32) (d z : Nat) (o : Nat → Nat) : Prop := ∃ pl, pl ≤ z ∧ (∀ q, q ≠ 155 → M1 q = M q) ∧ (∀ j, j < pl → M1 155 j = M 155 j) ∧ M1 155 pl = nI d ∧ (∀ j, pl < j → j ≤ z → M1 155 j = M 155 (j - 1)) ∧ (∀ j, pl ≤ j → j < z → jbef (M 2) (M 154) d (o j)) ∧ (pl = 0 ∨ ¬ jbef (M 2) (M 154) d (o (pl - 1)))
theorem iInv.step {M M1 M2 : Nat → Nat → Int32} {d z pl : Nat} {o : Nat → Nat} (h : iInv M M1 d z pl o) (h0 : 0 < pl) (hz : pl ≤ z) (e : M2 = va_up M1 155 (upd (M1 155) pl (M1 155 (pl - 1)))) (hb : jbef (M 2) (M 154) d (o (pl - 1))) : iInv M M2 d z (pl - 1) o := by
  subst e
  obtain ⟨a1, a2, a3, a4⟩ := h
  refine ⟨fun q hq => by rw [va_up_ne _ _ hq]; exact a1 q hq, fun j hj => by rw [va_up_self, pk_un (by omega)]; exact a2 j (by omega), fun j h1 h2 => ?_, fun j h1 h2 => ?_⟩
  · rw [va_up_self]
    by_cases c : j = pl
    · subst c
      rw [pk_us]; exact a2 (j - 1) (by omega)
    · rw [pk_un c]; exact a3 j (by omega) h2
  · by_cases c : j = pl - 1
    · rw [c]; exact hb
    · exact a4 j (by omega) h2
theorem iInv.done {M M1 M2 : Nat → Nat → Int32} {d z pl : Nat} {o : Nat → Nat} (h : iInv M M1 d z pl o) (hz : pl ≤ z) (e : M2 = va_up M1 155 (upd (M1 155) pl (nI d))) (hb : pl = 0 ∨ ¬ jbef (M 2) (M 154) d (o (pl - 1))) : iPost M M2 d z o := by
  subst e
  obtain ⟨a1, a2, a3, a4⟩ := h
  exact ⟨pl, hz, fun q hq => by rw [va_up_ne _ _ hq]; exact a1 q hq, fun j hj => by rw [va_up_self, pk_un (by omega)]; exact a2 j hj, by rw [va_up_self, pk_us], fun j h1 h2 => by rw [va_up_self, pk_un (by omega)]; exact a3 j h1 h2, a4, hb⟩

set_option maxHeartbeats 4000000 in
set_option maxRecDepth 100000 in
theorem kS_insert (l : Launch) (D : va_G) (cs : Nat → ClassId) (ad : Nat → Nat) (hI : bw_I ad 162) (M : Nat → Nat → Int32) (sz : Nat) (d z : Nat) (o : Nat → Nat) (hd : d < 48) (hz : z < 48) (ho : ∀ j, j < z → o j < 48 ∧ M 155 j = nI (o j))  : Met l yS_insert (wc yS_insert cS_insert 4 none) ({ frames := 1, cells := 0, slots := 0, locals := 22 } : Room) (va_Pc [.ref (ad 0), .int (nI d), .int (nI z)] (sP D cs ad M sz)) (bQv D ad 162 (sc_cell cs ad) sz (fun M1 => iPost M M1 d z o)) 0 0 (bw_A ad 162 sz) := by
  refine Met.ofW (cc := cS_insert) (maxL := 4) (ret := none) (by decide +kernel) rfl ?_
  intro p e s m args below meth c s₁ B hml hv
  obtain ⟨rfl, hsz, hP, hE⟩ := hv
  subst hsz
  have hx := B.exec
  have hb := B.bytes
  have hr := B.returns
  have hts : ∀ w9 ∈ ws_all, w9.before ([.ref (ad 0), .int (nI d), .int (nI z)] : List Value).toArray s = true := fun w9 h => atoms_spec (ws := (wc yS_insert cS_insert 4 none)) B.pre w9 (List.mem_cons_of_mem _ h)
  have hown : s.vm.findClass RS = some m.cls := findClass_of_methodNamed B.named
  have hlocks := B.notSynchronized
  have hS : va_S (bw_A ad 162 s.heap.size) s.heap s.heap [] := va_S.rf
  have hl := lv_entry ([.ref (ad 0), .int (nI d), .int (nI z)]) (n := 4) (Nat.le_of_ble_eq_true rfl)
  rw [lg_entry_eq]
  generalize (lg_sl ([.ref (ad 0), .int (nI d), .int (nI z)]) ++ List.replicate (4 - (lg_sl ([.ref (ad 0), .int (nI d), .int (nI z)])).length) Slot.unset).toArray = ls at hl ⊢
  have hl : lv_has ls 4 [(0, .ref (ad 0)), (1, .int (nI d)), (2, .int (nI z))] := hl
  refine lv_iload_n hx hb dS_insert_0 rfl (lv_at hl 2 rfl) ?_
  refine lv_istore_n (lv' := [(3, .int (nI z)), (0, .ref (ad 0)), (1, .int (nI d)), (2, .int (nI z))]) hx hb dS_insert_1 rfl hl (by decide) rfl (fun ls hl => ?_)
  have loop : ∀ k : Nat, (∀ (pl : Nat)  (M1 : Nat → Nat → Int32) (H : Heap) (locs : List Loc) (ls : Array Slot), pl ≤ z → iInv M M1 d z pl o → pl < k → va_P D cls3 (bw ad 162 (fun j => sc_cell cs ad j (M1 j))) H → va_S (bw_A ad 162 s.heap.size) s.heap H locs → lv_has ls 4 [(3, .int (nI pl)), (0, .ref (ad 0)), (1, .int (nI d)), (2, .int (nI z))] → W p l e (headSpec (wc yS_insert cS_insert 4 none) ({ frames := 1, cells := 0, slots := 0, locals := 22 } : Room)).room s m ([.ref (ad 0), .int (nI d), .int (nI z)] : List Value).toArray below meth c H locs 0 0 (MQ below (bQv D ad 162 (sc_cell cs ad) s.heap.size (fun M1 => iPost M M1 d z o)) ([.ref (ad 0), .int (nI d), .int (nI z)] : List Value).toArray s 0 0 (bw_A ad 162 s.heap.size)) (F0 m 2 ls [])) := by
    intro k
    induction k with
    | zero => exact by intros; omega
    | succ k ih =>
      intro pl  M1 H locs ls hpl hinv hmu hP hS hl
      refine lv_iload_n hx hb dS_insert_2 rfl (lv_at hl 0 rfl) ?_
      refine ln_if_le (tgt := 42) hx hb dS_insert_3 (by decide) (by omega) (fun c_3 => ?_) (fun c_3 => ?_)
      · skip
        refine lv_aload_n hx hb dS_insert_42 rfl (lv_at hl 1 rfl) ?_
        refine bw_get (own := RS) (ci := 1) (C := RS) (T := TS) (N := 14) (v := .ref (ad 155)) hx hb hts inS hown hE hP 0 (by decide) rfl rfl 12 (by decide) w_100 rfl rfl dS_insert_43 ?_
        refine lv_iload_n hx hb dS_insert_46 rfl (lv_at hl 0 rfl) ?_
        refine lv_iload_n hx hb dS_insert_47 rfl (lv_at hl 2 rfl) ?_
        refine ln_iast (L := 48) hx hb hE hI hP hS 155 0 (by decide) (rfl) rfl (by omega) (by decide) (upd (M1 155) pl (nI d)) (rfl) dS_insert_48 (fun M_1 H locs eM_1 hP hS => ?_)
        exact W.vret hx hb hr (fun t ht hW => ⟨⟨M_1, rfl, hinv.done hpl eM_1 (Or.inl c_3), by show va_P _ _ _ t.heap; rw [ht]; exact hP⟩, hS.F ht⟩) hS.2.2 dS_insert_49
      · skip
        refine lv_aload_n hx hb dS_insert_6 rfl (lv_at hl 1 rfl) ?_
        refine lv_iload_n hx hb dS_insert_7 rfl (lv_at hl 2 rfl) ?_
        refine lv_aload_n hx hb dS_insert_8 rfl (lv_at hl 1 rfl) ?_
        refine bw_get (own := RS) (ci := 1) (C := RS) (T := TS) (N := 14) (v := .ref (ad 155)) hx hb hts inS hown hE hP 0 (by decide) rfl rfl 12 (by decide) w_100 rfl rfl dS_insert_9 ?_
        refine lv_iload_n hx hb dS_insert_12 rfl (lv_at hl 0 rfl) ?_
        refine lv_iconst (v := nI 1) hx hb dS_insert_13 (by decide) ?_
        refine ln_isub hx hb dS_insert_14 (by omega) ?_
        refine ln_iald (L := 48) (g := (M1 155)) hx hb hE hP 155 0 (by decide) (rfl) rfl (by omega) (by decide) dS_insert_15 ?_
        refine ln_asi (nI (o (pl - 1))) (by rw [hinv.2.1 (pl - 1) (by omega)]; exact (ho (pl - 1) (by omega)).2) ?_
        refine vp_callSi (va_Run.run (bc_runV (own := RS) (C := RS) (As := [.int (nI d), .int (nI (o (pl - 1)))]) (rest := []) hx hb (hml.trans hl.1.symm) hown hts (kS_isDrawnBefore l D cs ad hI M1 H.size d (o (pl - 1)) hd (ho (pl - 1) (by omega)).1) w_219 w_216 w_218 ws_sel_S_isDrawnBefore w_1 ⟨rfl, hd_S_isDrawnBefore⟩ rfl ⟨rfl, rfl⟩ ⟨Nat.le_of_ble_eq_true rfl, Nat.le_of_ble_eq_true rfl⟩ (fun _ _ _ _ h => h.calling) (bc_recv (r := (RS, TS, 14)) hE hP 0 (by decide) rfl rfl) (fun U hU hW => ⟨by rw [hU], by rw [hU]; exact hP, hE.warm hW⟩) rfl (Nat.le_of_ble_eq_true rfl) dS_insert_16 ⟨Nat.le_of_ble_eq_true rfl, Nat.le_of_ble_eq_true rfl⟩)) (fun r_16 hr_16 => ?_)
        rw [hinv.1 2 (by decide), hinv.1 154 (by decide)] at hr_16
        refine lv_if_eq (tgt := 42) hx hb dS_insert_19 (by decide) (fun c_19 => ?_) (fun c_19 => ?_)
        · skip
          refine lv_aload_n hx hb dS_insert_42 rfl (lv_at hl 1 rfl) ?_
          refine bw_get (own := RS) (ci := 1) (C := RS) (T := TS) (N := 14) (v := .ref (ad 155)) hx hb hts inS hown hE hP 0 (by decide) rfl rfl 12 (by decide) w_100 rfl rfl dS_insert_43 ?_
          refine lv_iload_n hx hb dS_insert_46 rfl (lv_at hl 0 rfl) ?_
          refine lv_iload_n hx hb dS_insert_47 rfl (lv_at hl 2 rfl) ?_
          refine ln_iast (L := 48) hx hb hE hI hP hS 155 0 (by decide) (rfl) rfl (by omega) (by decide) (upd (M1 155) pl (nI d)) (rfl) dS_insert_48 (fun M_2 H locs eM_2 hP hS => ?_)
          exact W.vret hx hb hr (fun t ht hW => ⟨⟨M_2, rfl, hinv.done hpl eM_2 (Or.inr (hr_16.f c_19)), by show va_P _ _ _ t.heap; rw [ht]; exact hP⟩, hS.F ht⟩) hS.2.2 dS_insert_49
        · skip
          refine lv_aload_n hx hb dS_insert_22 rfl (lv_at hl 1 rfl) ?_
          refine bw_get (own := RS) (ci := 1) (C := RS) (T := TS) (N := 14) (v := .ref (ad 155)) hx hb hts inS hown hE hP 0 (by decide) rfl rfl 12 (by decide) w_100 rfl rfl dS_insert_23 ?_
          refine lv_iload_n hx hb dS_insert_26 rfl (lv_at hl 0 rfl) ?_
          refine lv_aload_n hx hb dS_insert_27 rfl (lv_at hl 1 rfl) ?_
          refine bw_get (own := RS) (ci := 1) (C := RS) (T := TS) (N := 14) (v := .ref (ad 155)) hx hb hts inS hown hE hP 0 (by decide) rfl rfl 12 (by decide) w_100 rfl rfl dS_insert_28 ?_
          refine lv_iload_n hx hb dS_insert_31 rfl (lv_at hl 0 rfl) ?_
          refine lv_iconst (v := nI 1) hx hb dS_insert_32 (by decide) ?_
          refine ln_isub hx hb dS_insert_33 (by omega) ?_
          refine ln_iald (L := 48) (g := (M1 155)) hx hb hE hP 155 0 (by decide) (rfl) rfl (by omega) (by decide) dS_insert_34 ?_
          refine ln_iast (L := 48) hx hb hE hI hP hS 155 0 (by decide) (rfl) rfl (by omega) (by decide) (upd (M1 155) pl (M1 155 (pl - 1))) (rfl) dS_insert_35 (fun M_3 H locs eM_3 hP hS => ?_)
          refine lv_iinc (v := nI (pl - 1)) (lv' := [(3, .int (nI (pl - 1))), (0, .ref (ad 0)), (1, .int (nI d)), (2, .int (nI z))]) hx hb dS_insert_36 hl (k := 0) rfl (sb_m1 (by omega)) (by decide) rfl (fun ls hl => ?_)
          refine lv_goto (tgt := 2) hx hb dS_insert_39 (by decide) ?_
          exact ih (pl - 1)  M_3 H locs ls (by omega) (hinv.step c_3 hpl eM_3 (hr_16.t c_19)) (by omega) hP hS (lv_sub hl [0, 1, 2, 3] rfl)
  exact (loop 100000) z  M s.heap [] ls (by omega) (⟨fun _ _ => rfl, fun _ _ => rfl, fun j h1 h2 => by omega, fun j h1 h2 => by omega⟩) (by omega) hP hS (lv_sub hl [0, 1, 2, 3] rfl)

/-- the state of the sort: M0 behind the worlds and the flags; S: who is seen; dq: the depths -/
def pInv (M0 M1 : Nat → Nat → Int32) (S : Nat → Prop) (dq : Nat → Int32) (d z : Nat) (o : Nat → Nat) : Prop := (∀ q, q ≠ 154 → q ≠ 155 → M1 q = M0 q) ∧ z ≤ d ∧ (∀ n, n < d → S n → M1 154 n = dq n) ∧ (∀ j, j < z → M1 155 j = nI (o j)) ∧ srt (ky1 (M0 2)) (ky2 (M0 2) dq) S d z o
theorem pInv.as {M0 M1 : Nat → Nat → Int32} {S : Nat → Prop} {dq : Nat → Int32} {d d' z : Nat} {o : Nat → Nat} (h : pInv M0 M1 S dq d z o) (e : d = d') : pInv M0 M1 S dq d' z o := e ▸ h
theorem pInv.skip {M0 M1 : Nat → Nat → Int32} {S : Nat → Prop} {dq : Nat → Int32} {d z : Nat} {o : Nat → Nat} (h : pInv M0 M1 S dq d z o) (hd : ¬ S d) : pInv M0 M1 S dq (d + 1) z o := by
  obtain ⟨a1, a2, a3, a4, a5⟩ := h
  refine ⟨a1, by omega, fun n hn hs => ?_, a4, srt_skip a5 hd⟩
  by_cases e : n = d
  · subst e; exact absurd hs hd
  · exact a3 n (by omega) hs
theorem pInv.ins {M0 M1 M2 M3 : Nat → Nat → Int32} {S : Nat → Prop} {dq : Nat → Int32} {d z : Nat} {o : Nat → Nat} {x : Int32} (h : pInv M0 M1 S dq d z o) (hS : S d) (hk : ∀ n, n ≤ d → S n → (M0 2 n = nI 1 ∨ M0 2 n = nI 2)) (e : M2 = va_up M1 154 (upd (M1 154) d x)) (hx : x = dq d) {pl : Nat} (hp : pl ≤ z ∧ (∀ q, q ≠ 155 → M3 q = M2 q) ∧ (∀ j, j < pl → M3 155 j = M2 155 j) ∧ M3 155 pl = nI d ∧ (∀ j, pl < j → j ≤ z → M3 155 j = M2 155 (j - 1)) ∧ (∀ j, pl ≤ j → j < z → jbef (M2 2) (M2 154) d (o j)) ∧ (pl = 0 ∨ ¬ jbef (M2 2) (M2 154) d (o (pl - 1)))) : pInv M0 M3 S dq (d + 1) (z + 1) (jins o d pl) := by
  obtain ⟨a1, a2, a3, a4, a5⟩ := h
  obtain ⟨b1, b2, b3, b4, b5, b6, b7⟩ := hp
  have c2 : M2 2 = M0 2 := by rw [e, va_up_ne _ _ (by decide), a1 2 (by decide) (by decide)]
  have c155 : M2 155 = M1 155 := by rw [e, va_up_ne _ _ (by decide)]
  have c154 : ∀ n, n ≤ d → S n → M2 154 n = dq n := by
    intro n hn hs
    rw [e, va_up_self]
    by_cases q : n = d
    · subst q; rw [pk_us, hx]
    · rw [pk_un q]; exact a3 n (by omega) hs
  have key : ∀ j, j < z → (jbef (M2 2) (M2 154) d (o j) ↔ (ky1 (M0 2) d < ky1 (M0 2) (o j) ∨ (ky1 (M0 2) d = ky1 (M0 2) (o j) ∧ ky2 (M0 2) dq d < ky2 (M0 2) dq (o j)))) := by
    intro j hj
    obtain ⟨o1, o2⟩ := a5.1 j hj
    rw [c2, jbef_key (hk d (by omega) hS) (hk (o j) (by omega) o2)]
    have e1 : ky2 (M0 2) (M2 154) d = ky2 (M0 2) dq d := by unfold ky2; rw [c154 d (by omega) hS]
    have e2 : ky2 (M0 2) (M2 154) (o j) = ky2 (M0 2) dq (o j) := by unfold ky2; rw [c154 (o j) (by omega) o2]
    rw [e1, e2]
  refine ⟨fun q h1 h2 => by rw [b2 q h2, e, va_up_ne _ _ h1]; exact a1 q h1 h2, by omega, fun n hn hs => by rw [b2 154 (by decide)]; exact c154 n (by omega) hs, fun j hj => ?_, srt_ins a5 hS b1 (fun j h1 h2 => (key j h2).mp (b6 j h1 h2)) ?_⟩
  · unfold jins
    by_cases q1 : j < pl
    · rw [if_pos q1, b3 j q1, c155]; exact a4 j (by omega)
    · rw [if_neg q1]
      by_cases q2 : j = pl
      · rw [if_pos q2, q2]; exact b4
      · rw [if_neg q2, b5 j (by omega) (by omega), c155]; exact a4 (j - 1) (by omega)
  · rcases b7 with b7 | b7
    · exact Or.inl b7
    · by_cases q : pl = 0
      · exact Or.inl q
      · exact Or.inr (fun hh => b7 ((key (pl - 1) (by omega)).mpr hh))

/-- the state behind the flags and the worlds -/
def oInvR (M M0 : Nat → Nat → Int32) (N r0 : Nat) : Prop := (∀ q, 0 < q → q ≠ 153 → (q < 103 ∨ 151 ≤ q) → M0 q = M q) ∧ (∀ t, t ≠ 7 → M0 0 t = M 0 t) ∧ M0 0 7 = nI (max r0 N) ∧ wOk M0 (max r0 N) ∧ ∀ n, n < N → M0 153 n = if jopn (M 1) (M 3) n = true then 1 else 0
theorem oInvR.of {M M1 M2 : Nat → Nat → Int32} {N r0 : Nat} (h1 : oInv M M1 N) (h2 : (∀ q, 0 < q → (q < 103 ∨ 151 ≤ q) → M2 q = M1 q) ∧ (∀ t, t ≠ 7 → M2 0 t = M1 0 t) ∧ M2 0 7 = nI (max r0 N) ∧ wOk M2 (max r0 N)) : oInvR M M2 N r0 := by
  obtain ⟨a1, a2⟩ := h1
  obtain ⟨b1, b2, b3, b4⟩ := h2
  exact ⟨fun q h0 h3 h4 => by rw [b1 q h0 h4]; exact a1 q h3, fun t ht => by rw [b2 t ht, a1 0 (by decide)], b3, b4, fun n hn => by rw [b1 153 (by decide) (by decide)]; exact a2 n hn⟩
theorem oInvR.seen {M M0 : Nat → Nat → Int32} {N r0 n : Nat} (h : oInvR M M0 N r0) (hn : n < N) : (¬ M0 2 n = 0 ∧ ¬ M0 153 n = 0) ↔ (¬ M 2 n = 0 ∧ jopn (M 1) (M 3) n = true) := by
  obtain ⟨a1, -, -, -, a5⟩ := h
  rw [a1 2 (by decide) (by decide) (by decide), a5 n hn]
  cases jopn (M 1) (M 3) n with
  | true => simp
  | false => simp
theorem oInvR.depth {M M0 : Nat → Nat → Int32} {N r0 n : Nat} (h : oInvR M M0 N r0) (hp : pOk (M 1) N) (hN : N ≤ 48) (hn : n < N) : jprod (M0 152) (M0 (103 + n)) 2 3 = jprod (M 152) (jworld (M 1) (fun n => M (54 + n)) n) 2 3 := by
  obtain ⟨a1, -, -, a4, -⟩ := h
  rw [a1 152 (by decide) (by decide) (by decide)]
  refine jprod_congr (fun _ _ => rfl) (fun t ht => ?_) (by decide) (by decide)
  rw [a4 n (by omega) t ht]
  exact jworld_congr hp (by omega) (fun k _ => by rw [a1 1 (by decide) (by decide) (by decide)]) (fun k hk t _ => by
    show M0 (54 + k) t = M (54 + k) t
    rw [a1 (54 + k) (by omega) (by omega) (by omega)]) n hn t ht

theorem wOk_of {M M1 : Nat → Nat → Int32} {N r0 : Nat} (h : oInv M M1 N) (hw : wOk M r0) (hr : r0 ≤ N) (hN : N ≤ 48) (hp : pOk (M 1) N) : wOk M1 r0 := by
  intro n hn t ht
  rw [h.1 (103 + n) (by omega), hw n hn t ht]
  refine (jworld_congr hp (by omega) (fun k _ => by rw [h.1 1 (by decide)]) (fun k hk t _ => ?_) n (by omega) t ht).symm
  show M1 (54 + k) t = M (54 + k) t
  rw [h.1 (54 + k) (by omega)]

set_option maxHeartbeats 4000000 in
set_option maxRecDepth 100000 in
theorem kS_putInOrder (l : Launch) (D : va_G) (cs : Nat → ClassId) (ad : Nat → Nat) (hI : bw_I ad 162) (M : Nat → Nat → Int32) (sz : Nat) (N r0 : Nat) (hN : N ≤ 48) (hn : M 0 0 = nI N) (hr0 : r0 ≤ N) (hp : pOk (M 1) N) (hw0 : M 0 7 = nI r0) (hw : wOk M r0) (hk : ∀ n, n < N → M 2 n = 0 ∨ M 2 n = nI 1 ∨ M 2 n = nI 2)  : Met l yS_putInOrder (wc yS_putInOrder cS_putInOrder 3 (some .int)) ({ frames := 5, cells := 0, slots := 0, locals := 111 } : Room) (va_Pc [.ref (ad 0)] (sP D cs ad M sz)) (bQi D ad 162 (sc_cell cs ad) sz (fun r M1 => ∃ z o M0, r = nI z ∧ oInvR M M0 N r0 ∧ pInv M0 M1 (fun n => ¬ M 2 n = 0 ∧ jopn (M 1) (M 3) n = true) (fun n => jprod (M 152) (jworld (M 1) (fun n => M (54 + n)) n) 2 3) N z o)) 0 0 (bw_A ad 162 sz) := by
  refine Met.ofW (cc := cS_putInOrder) (maxL := 3) (ret := (some .int)) (by decide +kernel) rfl ?_
  intro p e s m args below meth c s₁ B hml hv
  obtain ⟨rfl, hsz, hP, hE⟩ := hv
  subst hsz
  have hx := B.exec
  have hb := B.bytes
  have hr := B.returns
  have hts : ∀ w9 ∈ ws_all, w9.before ([.ref (ad 0)] : List Value).toArray s = true := fun w9 h => atoms_spec (ws := (wc yS_putInOrder cS_putInOrder 3 (some .int))) B.pre w9 (List.mem_cons_of_mem _ h)
  have hown : s.vm.findClass RS = some m.cls := findClass_of_methodNamed B.named
  have hlocks := B.notSynchronized
  have hS : va_S (bw_A ad 162 s.heap.size) s.heap s.heap [] := va_S.rf
  have hl := lv_entry ([.ref (ad 0)]) (n := 3) (Nat.le_of_ble_eq_true rfl)
  rw [lg_entry_eq]
  generalize (lg_sl ([.ref (ad 0)]) ++ List.replicate (3 - (lg_sl ([.ref (ad 0)])).length) Slot.unset).toArray = ls at hl ⊢
  have hl : lv_has ls 3 [(0, .ref (ad 0))] := hl
  refine lv_aload_n hx hb dS_putInOrder_0 rfl (lv_at hl 0 rfl) ?_
  refine bc_callv (bc_runV (own := RS) (C := RS) (As := []) (rest := []) hx hb (hml.trans hl.1.symm) hown hts (kS_markOpen l D cs ad hI M s.heap.size N hN hn hp) w_188 w_185 w_187 ws_sel_S_markOpen w_1 ⟨rfl, hd_S_markOpen⟩ rfl ⟨rfl, rfl⟩ ⟨Nat.le_of_ble_eq_true rfl, Nat.le_of_ble_eq_true rfl⟩ (fun _ _ _ _ h => h.calling) (bc_recv (r := (RS, TS, 14)) hE hP 0 (by decide) rfl rfl) (fun U hU hW => ⟨by rw [hU], by rw [hU]; exact hP, hE.warm hW⟩) rfl (Nat.le_of_ble_eq_true rfl) dS_putInOrder_1 ⟨Nat.le_of_ble_eq_true rfl, Nat.le_of_ble_eq_true rfl⟩) hS (fun M_1 H locs hr_1 hP hS => ?_)
  refine lv_aload_n hx hb dS_putInOrder_4 rfl (lv_at hl 0 rfl) ?_
  refine lv_aload_n hx hb dS_putInOrder_5 rfl (lv_at hl 0 rfl) ?_
  refine bw_get (own := RS) (ci := 1) (C := RS) (T := TS) (N := 14) (v := .int (M_1 0 0)) hx hb hts inS hown hE hP 0 (by decide) rfl rfl 0 (by decide) w_88 rfl rfl dS_putInOrder_6 ?_
  refine ln_asi (nI N) (by rw [hr_1.1 0 (by decide)]; exact hn) ?_
  refine bc_callv (bc_runV (own := RS) (C := RS) (As := [.int (nI N)]) (rest := []) hx hb (hml.trans hl.1.symm) hown hts (kS_readyWorlds l D cs ad hI M_1 H.size N N r0 hN (Nat.le_refl N) hr0 (by rw [hr_1.1 1 (by decide)]; exact hp) (by rw [hr_1.1 0 (by decide)]; exact hw0) (wOk_of hr_1 hw hr0 hN hp)) w_204 w_201 w_203 ws_sel_S_readyWorlds w_1 ⟨rfl, hd_S_readyWorlds⟩ rfl ⟨rfl, rfl⟩ ⟨Nat.le_of_ble_eq_true rfl, Nat.le_of_ble_eq_true rfl⟩ (fun _ _ _ _ h => h.calling) (bc_recv (r := (RS, TS, 14)) hE hP 0 (by decide) rfl rfl) (fun U hU hW => ⟨by rw [hU], by rw [hU]; exact hP, hE.warm hW⟩) rfl (Nat.le_of_ble_eq_true rfl) dS_putInOrder_9 ⟨Nat.le_of_ble_eq_true rfl, Nat.le_of_ble_eq_true rfl⟩) hS (fun M_2 H locs hr_9 hP hS => ?_)
  have hR := oInvR.of hr_1 hr_9
  refine lv_iconst (v := nI 0) hx hb dS_putInOrder_12 (by decide) ?_
  refine lv_istore_n (lv' := [(1, .int (nI 0)), (0, .ref (ad 0))]) hx hb dS_putInOrder_13 rfl hl (by decide) rfl (fun ls hl => ?_)
  refine lv_iconst (v := nI 0) hx hb dS_putInOrder_14 (by decide) ?_
  refine lv_istore_n (lv' := [(2, .int (nI 0)), (1, .int (nI 0)), (0, .ref (ad 0))]) hx hb dS_putInOrder_15 rfl hl (by decide) rfl (fun ls hl => ?_)
  have loop : ∀ k : Nat, (∀ (z : Nat) (d : Nat) (o : Nat → Nat) (M1 : Nat → Nat → Int32) (H : Heap) (locs : List Loc) (ls : Array Slot), d ≤ N → pInv M_2 M1 (fun n => ¬ M 2 n = 0 ∧ jopn (M 1) (M 3) n = true) (fun n => jprod (M 152) (jworld (M 1) (fun n => M (54 + n)) n) 2 3) d z o → N - d < k → va_P D cls3 (bw ad 162 (fun j => sc_cell cs ad j (M1 j))) H → va_S (bw_A ad 162 s.heap.size) s.heap H locs → lv_has ls 3 [(1, .int (nI z)), (2, .int (nI d)), (0, .ref (ad 0))] → W p l e (headSpec (wc yS_putInOrder cS_putInOrder 3 (some .int)) ({ frames := 5, cells := 0, slots := 0, locals := 111 } : Room)).room s m ([.ref (ad 0)] : List Value).toArray below meth c H locs 0 0 (MQ below (bQi D ad 162 (sc_cell cs ad) s.heap.size (fun r M1 => ∃ z o M0, r = nI z ∧ oInvR M M0 N r0 ∧ pInv M0 M1 (fun n => ¬ M 2 n = 0 ∧ jopn (M 1) (M 3) n = true) (fun n => jprod (M 152) (jworld (M 1) (fun n => M (54 + n)) n) 2 3) N z o)) ([.ref (ad 0)] : List Value).toArray s 0 0 (bw_A ad 162 s.heap.size)) (F0 m 16 ls [])) := by
    intro k
    induction k with
    | zero => exact by intros; omega
    | succ k ih =>
      intro z d o M1 H locs ls hd hinv hmu hP hS hl
      refine lv_iload_n hx hb dS_putInOrder_16 rfl (lv_at hl 1 rfl) ?_
      refine lv_aload_n hx hb dS_putInOrder_17 rfl (lv_at hl 2 rfl) ?_
      refine bw_get (own := RS) (ci := 1) (C := RS) (T := TS) (N := 14) (v := .int (M1 0 0)) hx hb hts inS hown hE hP 0 (by decide) rfl rfl 0 (by decide) w_88 rfl rfl dS_putInOrder_18 ?_
      refine ln_asi (nI N) (by rw [hinv.1 0 (by decide) (by decide), hR.2.1 0 (by decide)]; exact hn) ?_
      refine ln_icmp_ge (tgt := 68) hx hb dS_putInOrder_21 (by decide) (by omega) (by omega) (fun c_21 => ?_) (fun c_21 => ?_)
      · skip
        refine lv_iload_n hx hb dS_putInOrder_68 rfl (lv_at hl 0 rfl) ?_
        exact W.iret (v := nI z) hx hb hr (fun t ht hW => ⟨⟨_, M1, rfl, ⟨z, o, M_2, rfl, hR, pInv.as hinv (by omega)⟩, by show va_P _ _ _ t.heap; rw [ht]; exact hP⟩, hS.F ht⟩) hS.2.2 dS_putInOrder_69
      · skip
        refine lv_aload_n hx hb dS_putInOrder_24 rfl (lv_at hl 2 rfl) ?_
        refine lv_iload_n hx hb dS_putInOrder_25 rfl (lv_at hl 1 rfl) ?_
        refine vp_callSi (va_Run.run (bc_runV (own := RS) (C := RS) (As := [.int (nI d)]) (rest := []) hx hb (hml.trans hl.1.symm) hown hts (kS_isSeen l D cs ad hI M1 H.size d (by omega)) w_192 w_189 w_191 ws_sel_S_isSeen w_1 ⟨rfl, hd_S_isSeen⟩ rfl ⟨rfl, rfl⟩ ⟨Nat.le_of_ble_eq_true rfl, Nat.le_of_ble_eq_true rfl⟩ (fun _ _ _ _ h => h.calling) (bc_recv (r := (RS, TS, 14)) hE hP 0 (by decide) rfl rfl) (fun U hU hW => ⟨by rw [hU], by rw [hU]; exact hP, hE.warm hW⟩) rfl (Nat.le_of_ble_eq_true rfl) dS_putInOrder_26 ⟨Nat.le_of_ble_eq_true rfl, Nat.le_of_ble_eq_true rfl⟩)) (fun r_26 hr_26 => ?_)
        rw [hinv.1 2 (by decide) (by decide), hinv.1 153 (by decide) (by decide)] at hr_26
        refine lv_if_eq (tgt := 62) hx hb dS_putInOrder_29 (by decide) (fun c_29 => ?_) (fun c_29 => ?_)
        · skip
          refine lv_iinc (v := nI (d + 1)) (lv' := [(2, .int (nI (d + 1))), (1, .int (nI z)), (0, .ref (ad 0))]) hx hb dS_putInOrder_62 hl (k := 1) rfl (nI_add d 1) (by decide) rfl (fun ls hl => ?_)
          refine lv_goto (tgt := 16) hx hb dS_putInOrder_65 (by decide) ?_
          exact ih z (d + 1) o M1 H locs ls (by omega) (hinv.skip (fun hs => hr_26.f c_29 ((hR.seen (by omega)).mpr hs))) (by omega) hP hS (lv_sub hl [1, 0, 2] rfl)
        · skip
          refine lv_aload_n hx hb dS_putInOrder_32 rfl (lv_at hl 2 rfl) ?_
          refine bw_get (own := RS) (ci := 1) (C := RS) (T := TS) (N := 14) (v := .ref (ad 154)) hx hb hts inS hown hE hP 0 (by decide) rfl rfl 11 (by decide) w_99 rfl rfl dS_putInOrder_33 ?_
          refine lv_iload_n hx hb dS_putInOrder_36 rfl (lv_at hl 1 rfl) ?_
          refine lv_aload_n hx hb dS_putInOrder_37 rfl (lv_at hl 2 rfl) ?_
          refine bw_get (own := RS) (ci := 1) (C := RS) (T := TS) (N := 14) (v := .ref (ad 152)) hx hb hts inS hown hE hP 0 (by decide) rfl rfl 9 (by decide) w_97 rfl rfl dS_putInOrder_38 ?_
          refine lv_aload_n hx hb dS_putInOrder_41 rfl (lv_at hl 2 rfl) ?_
          refine bw_get (own := RS) (ci := 1) (C := RS) (T := TS) (N := 14) (v := .ref (ad 102)) hx hb hts inS hown hE hP 0 (by decide) rfl rfl 6 (by decide) w_94 rfl rfl dS_putInOrder_42 ?_
          refine lv_iload_n hx hb dS_putInOrder_45 rfl (lv_at hl 1 rfl) ?_
          refine ln_aald (L := 48) hx hb hE hP 102 2 (by decide) (rfl) rfl (by omega) (by decide) (a := ad (103 + d)) (by first | rfl | (show (if _ then _ else _) = _; rw [if_pos (by omega)])) dS_putInOrder_46 ?_
          refine lv_iconst (v := nI 2) hx hb dS_putInOrder_47 (by decide) ?_
          refine lv_iconst (v := nI 3) hx hb dS_putInOrder_48 (by decide) ?_
          refine vp_callSi (va_Run.run (bc_runS (own := RS) (As := [.ref (ad 152), .ref (ad (103 + d)), .int (nI 2), .int (nI 3)]) (rest := [.int (nI d), .ref (ad 154)]) hx hb (hml.trans hl.1.symm) hown hts (kS_productAt l D cs ad hI M1 H.size 152 (103 + d) (by decide) (by omega) (fun _ => rfl) (fun _ => sc_row103 (by omega)) 2 3 (by decide) (by decide)) w_73 w_71 w_72 w_1 hd_S_productAt rfl ⟨rfl, rfl⟩ ⟨Nat.le_of_ble_eq_true rfl, Nat.le_of_ble_eq_true rfl⟩ (fun _ _ _ _ h => h.calling) (fun U hU hW => ⟨by rw [hU], by rw [hU]; exact hP, hE.warm hW⟩) rfl (Nat.le_of_ble_eq_true rfl) dS_putInOrder_49 ⟨Nat.le_of_ble_eq_true rfl, Nat.le_of_ble_eq_true rfl⟩)) (fun r_49 hr_49 => ?_)
          rw [hinv.1 152 (by decide) (by decide), hinv.1 (103 + d) (by omega) (by omega), hR.depth hp hN (by omega)] at hr_49
          refine ln_iast (L := 48) hx hb hE hI hP hS 154 0 (by decide) (rfl) rfl (by omega) (by decide) (upd (M1 154) d r_49) (rfl) dS_putInOrder_52 (fun M_3 H locs eM_3 hP hS => ?_)
          refine lv_aload_n hx hb dS_putInOrder_53 rfl (lv_at hl 2 rfl) ?_
          refine lv_iload_n hx hb dS_putInOrder_54 rfl (lv_at hl 1 rfl) ?_
          refine lv_iload_n hx hb dS_putInOrder_55 rfl (lv_at hl 0 rfl) ?_
          refine bc_callv (bc_runV (own := RS) (C := RS) (As := [.int (nI d), .int (nI z)]) (rest := []) hx hb (hml.trans hl.1.symm) hown hts (kS_insert l D cs ad hI M_3 H.size d z o (by omega) (by have := hinv.2.1; omega) (fun j hj => ⟨by have := (hinv.2.2.2.2.1 j hj).1; omega, by rw [eM_3, va_up_ne _ _ (by decide)]; exact hinv.2.2.2.1 j hj⟩)) w_215 w_212 w_214 ws_sel_S_insert w_1 ⟨rfl, hd_S_insert⟩ rfl ⟨rfl, rfl⟩ ⟨Nat.le_of_ble_eq_true rfl, Nat.le_of_ble_eq_true rfl⟩ (fun _ _ _ _ h => h.calling) (bc_recv (r := (RS, TS, 14)) hE hP 0 (by decide) rfl rfl) (fun U hU hW => ⟨by rw [hU], by rw [hU]; exact hP, hE.warm hW⟩) rfl (Nat.le_of_ble_eq_true rfl) dS_putInOrder_56 ⟨Nat.le_of_ble_eq_true rfl, Nat.le_of_ble_eq_true rfl⟩) hS (fun M_4 H locs hr_56 hP hS => ?_)
          obtain ⟨pl, hpl⟩ := hr_56
          refine lv_iinc (v := nI (z + 1)) (lv' := [(1, .int (nI (z + 1))), (2, .int (nI d)), (0, .ref (ad 0))]) hx hb dS_putInOrder_59 hl (k := 0) rfl (nI_add z 1) (by decide) rfl (fun ls hl => ?_)
          refine lv_iinc (v := nI (d + 1)) (lv' := [(2, .int (nI (d + 1))), (1, .int (nI (z + 1))), (0, .ref (ad 0))]) hx hb dS_putInOrder_62 hl (k := 1) rfl (nI_add d 1) (by decide) rfl (fun ls hl => ?_)
          refine lv_goto (tgt := 16) hx hb dS_putInOrder_65 (by decide) ?_
          exact ih (z + 1) (d + 1) (jins o d pl) M_4 H locs ls (by omega) (hinv.ins ((hR.seen (by omega)).mp (hr_26.t c_29)) (fun n hn hs => by rw [hR.1 2 (by decide) (by decide) (by decide)]; rcases hk n (by omega) with q | q; exact absurd q hs.1; exact q) eM_3 hr_49 hpl) (by omega) hP hS (lv_sub hl [1, 0, 2] rfl)
  exact (loop 100000) 0 0 (fun _ => 0) M_2 H locs ls (by omega) (⟨fun _ _ _ => rfl, by omega, fun n hn => by omega, fun j hj => by omega, fun i hi => by omega, fun i j _ hj => by omega, fun n hn => by omega⟩) (by omega) hP hS (lv_sub hl [1, 0, 2] rfl)
