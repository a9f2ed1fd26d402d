/-! the blocks while they are made: all arrays empty, the objects' fields as far as they are written -/
theorem bw1 {D : va_G} {o : Nat} {f g : Nat → va_E} {H : Heap} (h : f 0 = g 0) (hP : va_P D cls3 (bw (ca o) 1 f) H) : va_P D cls3 (bw (ca o) 1 g) H := bw_P fun k hk => by
  have hk : k = 0 := by omega
  subst hk
  rw [← h]
  exact bw_Pat hP hk
theorem bw1_of {D : va_G} {o n k : Nat} {f g : Nat → va_E} {H : Heap} (hP : va_P D cls3 (bw (ca o) n f) H) (hk : k < n) (h : f k = g 0) : va_P D cls3 (bw (ca (o + k)) 1 g) H := bw_P fun j hj => by
  have hj : j = 0 := by omega
  subst hj
  rw [← h]
  exact bw_Pat hP hk
def fT (cs : Nat → ClassId) (g : List Value) (k : Nat) : va_E := if k = 0 then .inr (0, g) else .inl (cs 0, 12, .inl (fun _ => 0))
def fS (cs : Nat → ClassId) (o : Nat) (g t : List Value) (k : Nat) : va_E := if k = 0 then .inr (1, g) else if k = 156 then .inr (0, t) else sc_cell cs (ca o) k (fun _ => 0)
def fM (cs : Nat → ClassId) (o : Nat) (g : List Value) (k : Nat) : va_E := if k = 0 then .inr (2, g) else mc_cell cs (ca o) k (fun _ => 0, fun _ => 0)
theorem fT_up {cs : Nat → ClassId} {g g' : List Value} : va_up (fT cs g) 0 (.inr (0, g')) = fT cs g' := funext fun k => by
  by_cases h : k = 0 <;> simp [va_up, fT, h]
theorem fS_up {cs : Nat → ClassId} {o : Nat} {g g' t : List Value} : va_up (fS cs o g t) 0 (.inr (1, g')) = fS cs o g' t := funext fun k => by
  by_cases h : k = 0 <;> simp [va_up, fS, h]
theorem fM_up {cs : Nat → ClassId} {o : Nat} {g g' : List Value} : va_up (fM cs o g) 0 (.inr (2, g')) = fM cs o g' := funext fun k => by
  by_cases h : k = 0 <;> simp [va_up, fM, h]
theorem fS_rows {cs : Nat → ClassId} {o : Nat} {g t : List Value} {k : Nat} (h0 : 0 < k) (h1 : k ≠ 156) : fS cs o g t k = sc_cell cs (ca o) k (fun _ => 0) := by
  unfold fS
  rw [if_neg (by omega), if_neg h1]
set_option maxHeartbeats 4000000 in
set_option maxRecDepth 100000 in
theorem kT_init (l : Launch) (D : va_G) (cs : Nat → ClassId) (o : Nat) : Met l yT_init (wc yT_init cT_init 1 none) ({ frames := 1, cells := 5, slots := 60, locals := 12 } : Room) (va_Pc [.ref o] (cPre D cs o 0 [.null, .null, .null, .null, .null])) (va_Qv (fun _ : Unit => True) (fun _ t => va_P D cls3 (bw (ca o) 6 (fT cs [.ref (o + 1), .ref (o + 2), .ref (o + 3), .ref (o + 4), .ref (o + 5)])) t.heap ∧ t.heap.size = o + 6) (gA o)) 5 60 (gA o) := by
  refine Met.ofW (cc := cT_init) (maxL := 1) (ret := none) (by decide +kernel) rfl ?_
  intro p e s m args below meth c s₁ B hml hv
  obtain ⟨rfl, hz, hP, hE, hao⟩ := hv
  have hx := B.exec
  have hb := B.bytes
  have hr := B.returns
  have hts : ∀ w9 ∈ ws_all, w9.before ([.ref o] : List Value).toArray s = true := fun w9 h => atoms_spec (ws := (wc yT_init cT_init 1 none)) B.pre w9 (List.mem_cons_of_mem _ h)
  have hown : s.vm.findClass RT = some m.cls := findClass_of_methodNamed B.named
  have hlocks := B.notSynchronized
  have hin2 : meth.name = "<init>" := (name_of_methodNamed B.named B.method).1
  have hS : va_S (gA o) s.heap s.heap [] := va_S.rf
  have hP : va_P D cls3 (bw (ca o) 1 (fT cs [.null, .null, .null, .null, .null])) s.heap := bw1 rfl hP
  have hl := lv_entry ([.ref o]) (n := 1) (Nat.le_of_ble_eq_true rfl)
  rw [lg_entry_eq]
  generalize (lg_sl ([.ref o]) ++ List.replicate (1 - (lg_sl ([.ref o])).length) Slot.unset).toArray = ls at hl ⊢
  have hl : lv_has ls 1 [(0, .ref o)] := hl
  refine lv_aload_n hx hb dT_init_0 rfl (lv_at hl 0 rfl) ?_
  refine W.objInit hx hb hown (hts _ w_25) (hts _ w_16) (hts _ w_17) rfl (by rw [hml]; exact hl.1) rfl dT_init_1 (Nat.le_of_ble_eq_true rfl) (Nat.le_of_ble_eq_true rfl) ?_
  refine W.eq (g2 := F0 m 4 ls []) rfl ?_
  refine lv_aload_n hx hb dT_init_4 rfl (lv_at hl 0 rfl) ?_
  refine lv_bipush (v := nI 12) hx hb dT_init_5 (by decide) ?_
  refine cn_new (ty := .int) (N := 12) (a0 := (12, .inl (fun _ => 0))) hx hb rfl (hts _ w_42) hP hz hS (hE.1.2 0 _ rfl).2 rfl rfl (by decide) (by decide) (Nat.le_of_ble_eq_true rfl) (Nat.le_of_ble_eq_true rfl) dT_init_7 (fun H hP hz hS => ?_)
  refine cn_putF (own := RT) (ci := 0) (C := RT) (T := TT) (N := 5) (v := .ref (o + 1)) (ty := (.array .int)) (f' := fT cs [.ref (o + 1), .null, .null, .null, .null]) hx hb hts inT tyT tyT_ok nmT hown hE hP hz hS 0 (by decide) rfl rfl rfl 0 (by decide) w_26 rfl rfl hin2 rfl (by decide +kernel) rfl rfl (Nat.le_of_ble_eq_true rfl) fT_up dT_init_9 (fun H locs hP hz hS => ?_)
  refine lv_aload_n hx hb dT_init_12 rfl (lv_at hl 0 rfl) ?_
  refine lv_bipush (v := nI 12) hx hb dT_init_13 (by decide) ?_
  refine cn_new (ty := .int) (N := 12) (a0 := (12, .inl (fun _ => 0))) hx hb rfl (hts _ w_42) hP hz hS (hE.1.2 0 _ rfl).2 rfl rfl (by decide) (by decide) (Nat.le_of_ble_eq_true rfl) (Nat.le_of_ble_eq_true rfl) dT_init_15 (fun H hP hz hS => ?_)
  refine cn_putF (own := RT) (ci := 0) (C := RT) (T := TT) (N := 5) (v := .ref (o + 2)) (ty := (.array .int)) (f' := fT cs [.ref (o + 1), .ref (o + 2), .null, .null, .null]) hx hb hts inT tyT tyT_ok nmT hown hE hP hz hS 0 (by decide) rfl rfl rfl 1 (by decide) w_27 rfl rfl hin2 rfl (by decide +kernel) rfl rfl (Nat.le_of_ble_eq_true rfl) fT_up dT_init_17 (fun H locs hP hz hS => ?_)
  refine lv_aload_n hx hb dT_init_20 rfl (lv_at hl 0 rfl) ?_
  refine lv_bipush (v := nI 12) hx hb dT_init_21 (by decide) ?_
  refine cn_new (ty := .int) (N := 12) (a0 := (12, .inl (fun _ => 0))) hx hb rfl (hts _ w_42) hP hz hS (hE.1.2 0 _ rfl).2 rfl rfl (by decide) (by decide) (Nat.le_of_ble_eq_true rfl) (Nat.le_of_ble_eq_true rfl) dT_init_23 (fun H hP hz hS => ?_)
  refine cn_putF (own := RT) (ci := 0) (C := RT) (T := TT) (N := 5) (v := .ref (o + 3)) (ty := (.array .int)) (f' := fT cs [.ref (o + 1), .ref (o + 2), .ref (o + 3), .null, .null]) hx hb hts inT tyT tyT_ok nmT hown hE hP hz hS 0 (by decide) rfl rfl rfl 2 (by decide) w_28 rfl rfl hin2 rfl (by decide +kernel) rfl rfl (Nat.le_of_ble_eq_true rfl) fT_up dT_init_25 (fun H locs hP hz hS => ?_)
  refine lv_aload_n hx hb dT_init_28 rfl (lv_at hl 0 rfl) ?_
  refine lv_bipush (v := nI 12) hx hb dT_init_29 (by decide) ?_
  refine cn_new (ty := .int) (N := 12) (a0 := (12, .inl (fun _ => 0))) hx hb rfl (hts _ w_42) hP hz hS (hE.1.2 0 _ rfl).2 rfl rfl (by decide) (by decide) (Nat.le_of_ble_eq_true rfl) (Nat.le_of_ble_eq_true rfl) dT_init_31 (fun H hP hz hS => ?_)
  refine cn_putF (own := RT) (ci := 0) (C := RT) (T := TT) (N := 5) (v := .ref (o + 4)) (ty := (.array .int)) (f' := fT cs [.ref (o + 1), .ref (o + 2), .ref (o + 3), .ref (o + 4), .null]) hx hb hts inT tyT tyT_ok nmT hown hE hP hz hS 0 (by decide) rfl rfl rfl 3 (by decide) w_29 rfl rfl hin2 rfl (by decide +kernel) rfl rfl (Nat.le_of_ble_eq_true rfl) fT_up dT_init_33 (fun H locs hP hz hS => ?_)
  refine lv_aload_n hx hb dT_init_36 rfl (lv_at hl 0 rfl) ?_
  refine lv_bipush (v := nI 12) hx hb dT_init_37 (by decide) ?_
  refine cn_new (ty := .int) (N := 12) (a0 := (12, .inl (fun _ => 0))) hx hb rfl (hts _ w_42) hP hz hS (hE.1.2 0 _ rfl).2 rfl rfl (by decide) (by decide) (Nat.le_of_ble_eq_true rfl) (Nat.le_of_ble_eq_true rfl) dT_init_39 (fun H hP hz hS => ?_)
  refine cn_putF (own := RT) (ci := 0) (C := RT) (T := TT) (N := 5) (v := .ref (o + 5)) (ty := (.array .int)) (f' := fT cs [.ref (o + 1), .ref (o + 2), .ref (o + 3), .ref (o + 4), .ref (o + 5)]) hx hb hts inT tyT tyT_ok nmT hown hE hP hz hS 0 (by decide) rfl rfl rfl 4 (by decide) w_30 rfl rfl hin2 rfl (by decide +kernel) rfl rfl (Nat.le_of_ble_eq_true rfl) fT_up dT_init_41 (fun H locs hP hz hS => ?_)
  exact W.vret hx hb hr (fun t ht hW => ⟨⟨(), rfl, trivial, by rw [ht]; exact hP, by rw [ht]; exact hz⟩, hS.F ht⟩) hS.2.2 dT_init_44
theorem fS_high {cs : Nat → ClassId} {o i : Nat} {g : List Value} (hi : i < 6) : fS cs o g [.ref (o + 157), .ref (o + 158), .ref (o + 159), .ref (o + 160), .ref (o + 161)] (156 + i) = fT cs [.ref (o + 156 + 1), .ref (o + 156 + 2), .ref (o + 156 + 3), .ref (o + 156 + 4), .ref (o + 156 + 5)] i := by
  unfold fS fT
  rw [if_neg (by omega)]
  by_cases h : i = 0
  · rw [if_pos (by omega), if_pos h, Nat.add_assoc o 156 1, Nat.add_assoc o 156 2, Nat.add_assoc o 156 3, Nat.add_assoc o 156 4, Nat.add_assoc o 156 5]
  · rw [if_neg (by omega), if_neg h]
    unfold sc_cell sc_len
    simp [show ¬ 156 + i = 0 by omega, show ¬ 156 + i = 4 by omega, show ¬ 156 + i = 53 by omega, show ¬ 156 + i = 102 by omega, show ¬ 156 + i = 3 by omega, show ¬ 156 + i = 153 by omega, show ¬ 156 + i < 3 by omega, show ¬ 156 + i < 53 by omega, show ¬ 156 + i < 151 by omega, show ¬ 156 + i = 151 by omega, show ¬ 156 + i = 152 by omega, show ¬ 156 + i < 156 by omega, h]
theorem fS_low {cs : Nat → ClassId} {o k : Nat} {g t t' : List Value} (hk : k < 156) : fS cs o g t' k = fS cs o g t k := by
  unfold fS
  rw [if_neg (show ¬ k = 156 by omega), if_neg (show ¬ k = 156 by omega)]
theorem fS_join {D : va_G} {cs : Nat → ClassId} {o : Nat} {g t : List Value} {H H1 : Heap} (hP : va_P D cls3 (bw (ca o) 157 (fS cs o g t)) H) (hz : H.size = o + 157) (hk1 : ∀ q : Nat, q < H.size → ¬ gA (o + 156) q → H1[q]? = H[q]?) (hB : va_P D cls3 (bw (ca (o + 156)) 6 (fT cs [.ref (o + 156 + 1), .ref (o + 156 + 2), .ref (o + 156 + 3), .ref (o + 156 + 4), .ref (o + 156 + 5)])) H1) : va_P D cls3 (bw (ca o) 162 (fS cs o g [.ref (o + 157), .ref (o + 158), .ref (o + 159), .ref (o + 160), .ref (o + 161)])) H1 := bw_P fun k hk => by
  by_cases h : k < 156
  · rw [fS_low (t := t) h]
    refine va_at_kept (bw_Pat hP (by omega)) (hk1 (o + k) (by omega) (fun h9 => ?_))
    have h9 : o + 156 ≤ o + k := h9
    omega
  · obtain ⟨i, rfl⟩ : ∃ i, k = 156 + i := ⟨k - 156, by omega⟩
    have h6 := bw_Pat hB (k := i) (by omega)
    rw [fS_high (by omega)]
    have e : ca o (156 + i) = ca (o + 156) i := (Nat.add_assoc o 156 i).symm
    rw [e]
    exact h6
theorem fS_done {D : va_G} {cs : Nat → ClassId} {o : Nat} {H : Heap} (hP : va_P D cls3 (bw (ca o) 162 (fS cs o [.int 0, .ref (o + 1), .ref (o + 2), .ref (o + 3), .ref (o + 4), .ref (o + 53), .ref (o + 102), .int 0, .ref (o + 151), .ref (o + 152), .ref (o + 153), .ref (o + 154), .ref (o + 155), .ref (o + 156)] [.ref (o + 157), .ref (o + 158), .ref (o + 159), .ref (o + 160), .ref (o + 161)])) H) : va_P D cls3 (bw (ca o) 162 (fun j => sc_cell cs (ca o) j ((fun _ _ => 0 : Nat → Nat → Int32) j))) H := by
  rw [bw_cong (g := fS cs o [.int 0, .ref (o + 1), .ref (o + 2), .ref (o + 3), .ref (o + 4), .ref (o + 53), .ref (o + 102), .int 0, .ref (o + 151), .ref (o + 152), .ref (o + 153), .ref (o + 154), .ref (o + 155), .ref (o + 156)] [.ref (o + 157), .ref (o + 158), .ref (o + 159), .ref (o + 160), .ref (o + 161)])]
  · exact hP
  · intro k _
    by_cases h0 : k = 0
    · subst h0
      unfold fS sc_cell
      rw [if_pos rfl, if_pos rfl]
    · by_cases h1 : k = 156
      · subst h1
        unfold fS sc_cell
        simp only [show ¬ (156 = 0) by decide, if_false, if_true]
      · exact (fS_rows (by omega) h1).symm
theorem cA_of {H : Heap} {o n q : Nat} (hz : H.size = o + n) (h : bw_A (ca o) n H.size q) : gA o q := by
  rcases h with ⟨k, _, rfl⟩ | h
  · exact Nat.le_add_right o k
  · show o ≤ q
    omega
def Ab0 : Ab := (0, fun _ => 0, fun _ => 0, fun _ => 0, fun _ _ => 0, fun _ => 0)
theorem cls0 {M1 : Nat → Nat → Int32} (h : (∀ q, q < 157 → q ≠ 152 → M1 q = (fun _ _ => 0 : Nat → Nat → Int32) q) ∧ sTZ M1 ∧ ∀ t, t < 12 → M1 152 t = jview ((fun _ _ => 0 : Nat → Nat → Int32) 151) t) : Cls Ab0 M1 := by
  refine ⟨⟨Nat.zero_le _, fun n hn => absurd hn (Nat.not_lt_zero _), fun n hn => absurd hn (Nat.not_lt_zero _)⟩, ?_, fun n hn => absurd hn (Nat.not_lt_zero _), fun j _ => ?_, h.2.2, h.2.1, 0, Nat.le_refl _, ?_, fun n hn => absurd hn (Nat.not_lt_zero _)⟩
  · rw [h.1 0 (by decide) (by decide)]; rfl
  · rw [h.1 151 (by decide) (by decide)]; rfl
  · rw [h.1 0 (by decide) (by decide)]; rfl
theorem ref0 : Ref Ab0 (fun _ => (fun _ => 0, fun _ => 0)) := ⟨rfl, fun n hn => absurd hn (Nat.not_lt_zero _), fun _ _ => rfl⟩
set_option maxHeartbeats 4000000 in
set_option maxRecDepth 100000 in
theorem kM_init (l : Launch) (D : va_G) (cs : Nat → ClassId) (o : Nat) : Met l yM_init (wc yM_init cM_init 1 none) ({ frames := 1, cells := 12, slots := 753, locals := 12 } : Room) (va_Pc [.ref o] (cPre D cs o 2 [.int 0, .int 0, .null, .null, .null, .null, .null, .null, .null, .null, .null, .null, .null, .null])) (va_Qv (fun M1 : Nat → mRow => Ref Ab0 M1) (fun M1 t => va_P D cls3 (bw (ca o) 13 (fun j => mc_cell cs (ca o) j (M1 j))) t.heap) (gA o)) 12 753 (gA o) := by
  refine Met.ofW (cc := cM_init) (maxL := 1) (ret := none) (by decide +kernel) rfl ?_
  intro p e s m args below meth c s₁ B hml hv
  obtain ⟨rfl, hz, hP, hE, hao⟩ := hv
  have hx := B.exec
  have hb := B.bytes
  have hr := B.returns
  have hts : ∀ w9 ∈ ws_all, w9.before ([.ref o] : List Value).toArray s = true := fun w9 h => atoms_spec (ws := (wc yM_init cM_init 1 none)) B.pre w9 (List.mem_cons_of_mem _ h)
  have hown : s.vm.findClass RM = some m.cls := findClass_of_methodNamed B.named
  have hlocks := B.notSynchronized
  have hin2 : meth.name = "<init>" := (name_of_methodNamed B.named B.method).1
  have hS : va_S (gA o) s.heap s.heap [] := va_S.rf
  have hP : va_P D cls3 (bw (ca o) 1 (fM cs o [.int 0, .int 0, .null, .null, .null, .null, .null, .null, .null, .null, .null, .null, .null, .null])) s.heap := bw1 rfl hP
  have hl := lv_entry ([.ref o]) (n := 1) (Nat.le_of_ble_eq_true rfl)
  rw [lg_entry_eq]
  generalize (lg_sl ([.ref o]) ++ List.replicate (1 - (lg_sl ([.ref o])).length) Slot.unset).toArray = ls at hl ⊢
  have hl : lv_has ls 1 [(0, .ref o)] := hl
  refine lv_aload_n hx hb dM_init_0 rfl (lv_at hl 0 rfl) ?_
  refine W.objInit hx hb hown (hts _ w_315) (hts _ w_16) (hts _ w_17) rfl (by rw [hml]; exact hl.1) rfl dM_init_1 (Nat.le_of_ble_eq_true rfl) (Nat.le_of_ble_eq_true rfl) ?_
  refine W.eq (g2 := F0 m 4 ls []) rfl ?_
  refine lv_aload_n hx hb dM_init_4 rfl (lv_at hl 0 rfl) ?_
  refine lv_bipush (v := nI 48) hx hb dM_init_5 (by decide) ?_
  refine cn_new (ty := .int) (N := 48) (a0 := (48, .inl (fun _ => 0))) hx hb rfl (hts _ w_42) hP hz hS (hE.1.2 0 _ rfl).2 rfl rfl (by decide) (by decide) (Nat.le_of_ble_eq_true rfl) (Nat.le_of_ble_eq_true rfl) dM_init_7 (fun H hP hz hS => ?_)
  refine cn_putF (own := RM) (ci := 2) (C := RM) (T := TM) (N := 14) (v := .ref (o + 1)) (ty := (.array .int)) (f' := fM cs o [.int 0, .int 0, .ref (o + 1), .null, .null, .null, .null, .null, .null, .null, .null, .null, .null, .null]) hx hb hts inM tyM tyM_ok nmM hown hE hP hz hS 0 (by decide) rfl rfl rfl 2 (by decide) w_318 rfl rfl hin2 rfl (by decide +kernel) rfl rfl (Nat.le_of_ble_eq_true rfl) fM_up dM_init_9 (fun H locs hP hz hS => ?_)
  refine lv_aload_n hx hb dM_init_12 rfl (lv_at hl 0 rfl) ?_
  refine lv_bipush (v := nI 48) hx hb dM_init_13 (by decide) ?_
  refine cn_new (ty := .int) (N := 48) (a0 := (48, .inl (fun _ => 0))) hx hb rfl (hts _ w_42) hP hz hS (hE.1.2 0 _ rfl).2 rfl rfl (by decide) (by decide) (Nat.le_of_ble_eq_true rfl) (Nat.le_of_ble_eq_true rfl) dM_init_15 (fun H hP hz hS => ?_)
  refine cn_putF (own := RM) (ci := 2) (C := RM) (T := TM) (N := 14) (v := .ref (o + 2)) (ty := (.array .int)) (f' := fM cs o [.int 0, .int 0, .ref (o + 1), .ref (o + 2), .null, .null, .null, .null, .null, .null, .null, .null, .null, .null]) hx hb hts inM tyM tyM_ok nmM hown hE hP hz hS 0 (by decide) rfl rfl rfl 3 (by decide) w_319 rfl rfl hin2 rfl (by decide +kernel) rfl rfl (Nat.le_of_ble_eq_true rfl) fM_up dM_init_17 (fun H locs hP hz hS => ?_)
  refine lv_aload_n hx hb dM_init_20 rfl (lv_at hl 0 rfl) ?_
  refine lv_bipush (v := nI 48) hx hb dM_init_21 (by decide) ?_
  refine cn_new (ty := .boolean) (N := 48) (a0 := (48, .inl (fun _ => 0))) hx hb rfl (hts _ w_43) hP hz hS (hE.1.2 1 _ rfl).2 rfl rfl (by decide) (by decide) (Nat.le_of_ble_eq_true rfl) (Nat.le_of_ble_eq_true rfl) dM_init_23 (fun H hP hz hS => ?_)
  refine cn_putF (own := RM) (ci := 2) (C := RM) (T := TM) (N := 14) (v := .ref (o + 3)) (ty := (.array .boolean)) (f' := fM cs o [.int 0, .int 0, .ref (o + 1), .ref (o + 2), .ref (o + 3), .null, .null, .null, .null, .null, .null, .null, .null, .null]) hx hb hts inM tyM tyM_ok nmM hown hE hP hz hS 0 (by decide) rfl rfl rfl 4 (by decide) w_320 rfl rfl hin2 rfl (by decide +kernel) rfl rfl (Nat.le_of_ble_eq_true rfl) fM_up dM_init_25 (fun H locs hP hz hS => ?_)
  refine lv_aload_n hx hb dM_init_28 rfl (lv_at hl 0 rfl) ?_
  refine lv_sipush (v := nI 441) hx hb dM_init_29 (by decide) ?_
  refine cn_new (ty := .int) (N := 441) (a0 := (441, .inl (fun _ => 0))) hx hb rfl (hts _ w_42) hP hz hS (hE.1.2 0 _ rfl).2 rfl rfl (by decide) (by decide) (Nat.le_of_ble_eq_true rfl) (Nat.le_of_ble_eq_true rfl) dM_init_32 (fun H hP hz hS => ?_)
  refine cn_putF (own := RM) (ci := 2) (C := RM) (T := TM) (N := 14) (v := .ref (o + 4)) (ty := (.array .int)) (f' := fM cs o [.int 0, .int 0, .ref (o + 1), .ref (o + 2), .ref (o + 3), .ref (o + 4), .null, .null, .null, .null, .null, .null, .null, .null]) hx hb hts inM tyM tyM_ok nmM hown hE hP hz hS 0 (by decide) rfl rfl rfl 5 (by decide) w_321 rfl rfl hin2 rfl (by decide +kernel) rfl rfl (Nat.le_of_ble_eq_true rfl) fM_up dM_init_34 (fun H locs hP hz hS => ?_)
  refine lv_aload_n hx hb dM_init_37 rfl (lv_at hl 0 rfl) ?_
  refine lv_bipush (v := nI 48) hx hb dM_init_38 (by decide) ?_
  refine cn_new (ty := .int) (N := 48) (a0 := (48, .inl (fun _ => 0))) hx hb rfl (hts _ w_42) hP hz hS (hE.1.2 0 _ rfl).2 rfl rfl (by decide) (by decide) (Nat.le_of_ble_eq_true rfl) (Nat.le_of_ble_eq_true rfl) dM_init_40 (fun H hP hz hS => ?_)
  refine cn_putF (own := RM) (ci := 2) (C := RM) (T := TM) (N := 14) (v := .ref (o + 5)) (ty := (.array .int)) (f' := fM cs o [.int 0, .int 0, .ref (o + 1), .ref (o + 2), .ref (o + 3), .ref (o + 4), .ref (o + 5), .null, .null, .null, .null, .null, .null, .null]) hx hb hts inM tyM tyM_ok nmM hown hE hP hz hS 0 (by decide) rfl rfl rfl 6 (by decide) w_322 rfl rfl hin2 rfl (by decide +kernel) rfl rfl (Nat.le_of_ble_eq_true rfl) fM_up dM_init_42 (fun H locs hP hz hS => ?_)
  refine lv_aload_n hx hb dM_init_45 rfl (lv_at hl 0 rfl) ?_
  refine lv_bipush (v := nI 48) hx hb dM_init_46 (by decide) ?_
  refine cn_new (ty := .long) (N := 48) (a0 := (48, .inr (.inl (fun _ => 0)))) hx hb rfl (hts _ w_359) hP hz hS (hE.1.2 3 _ rfl).2 rfl rfl (by decide) (by decide) (Nat.le_of_ble_eq_true rfl) (Nat.le_of_ble_eq_true rfl) dM_init_48 (fun H hP hz hS => ?_)
  refine cn_putF (own := RM) (ci := 2) (C := RM) (T := TM) (N := 14) (v := .ref (o + 6)) (ty := (.array .long)) (f' := fM cs o [.int 0, .int 0, .ref (o + 1), .ref (o + 2), .ref (o + 3), .ref (o + 4), .ref (o + 5), .ref (o + 6), .null, .null, .null, .null, .null, .null]) hx hb hts inM tyM tyM_ok nmM hown hE hP hz hS 0 (by decide) rfl rfl rfl 7 (by decide) w_323 rfl rfl hin2 rfl (by decide +kernel) rfl rfl (Nat.le_of_ble_eq_true rfl) fM_up dM_init_50 (fun H locs hP hz hS => ?_)
  refine lv_aload_n hx hb dM_init_53 rfl (lv_at hl 0 rfl) ?_
  refine lv_bipush (v := nI 12) hx hb dM_init_54 (by decide) ?_
  refine cn_new (ty := .long) (N := 12) (a0 := (12, .inr (.inl (fun _ => 0)))) hx hb rfl (hts _ w_359) hP hz hS (hE.1.2 3 _ rfl).2 rfl rfl (by decide) (by decide) (Nat.le_of_ble_eq_true rfl) (Nat.le_of_ble_eq_true rfl) dM_init_56 (fun H hP hz hS => ?_)
  refine cn_putF (own := RM) (ci := 2) (C := RM) (T := TM) (N := 14) (v := .ref (o + 7)) (ty := (.array .long)) (f' := fM cs o [.int 0, .int 0, .ref (o + 1), .ref (o + 2), .ref (o + 3), .ref (o + 4), .ref (o + 5), .ref (o + 6), .ref (o + 7), .null, .null, .null, .null, .null]) hx hb hts inM tyM tyM_ok nmM hown hE hP hz hS 0 (by decide) rfl rfl rfl 8 (by decide) w_324 rfl rfl hin2 rfl (by decide +kernel) rfl rfl (Nat.le_of_ble_eq_true rfl) fM_up dM_init_58 (fun H locs hP hz hS => ?_)
  refine lv_aload_n hx hb dM_init_61 rfl (lv_at hl 0 rfl) ?_
  refine lv_bipush (v := nI 12) hx hb dM_init_62 (by decide) ?_
  refine cn_new (ty := .long) (N := 12) (a0 := (12, .inr (.inl (fun _ => 0)))) hx hb rfl (hts _ w_359) hP hz hS (hE.1.2 3 _ rfl).2 rfl rfl (by decide) (by decide) (Nat.le_of_ble_eq_true rfl) (Nat.le_of_ble_eq_true rfl) dM_init_64 (fun H hP hz hS => ?_)
  refine cn_putF (own := RM) (ci := 2) (C := RM) (T := TM) (N := 14) (v := .ref (o + 8)) (ty := (.array .long)) (f' := fM cs o [.int 0, .int 0, .ref (o + 1), .ref (o + 2), .ref (o + 3), .ref (o + 4), .ref (o + 5), .ref (o + 6), .ref (o + 7), .ref (o + 8), .null, .null, .null, .null]) hx hb hts inM tyM tyM_ok nmM hown hE hP hz hS 0 (by decide) rfl rfl rfl 9 (by decide) w_325 rfl rfl hin2 rfl (by decide +kernel) rfl rfl (Nat.le_of_ble_eq_true rfl) fM_up dM_init_66 (fun H locs hP hz hS => ?_)
  refine lv_aload_n hx hb dM_init_69 rfl (lv_at hl 0 rfl) ?_
  refine lv_bipush (v := nI 12) hx hb dM_init_70 (by decide) ?_
  refine cn_new (ty := .long) (N := 12) (a0 := (12, .inr (.inl (fun _ => 0)))) hx hb rfl (hts _ w_359) hP hz hS (hE.1.2 3 _ rfl).2 rfl rfl (by decide) (by decide) (Nat.le_of_ble_eq_true rfl) (Nat.le_of_ble_eq_true rfl) dM_init_72 (fun H hP hz hS => ?_)
  refine cn_putF (own := RM) (ci := 2) (C := RM) (T := TM) (N := 14) (v := .ref (o + 9)) (ty := (.array .long)) (f' := fM cs o [.int 0, .int 0, .ref (o + 1), .ref (o + 2), .ref (o + 3), .ref (o + 4), .ref (o + 5), .ref (o + 6), .ref (o + 7), .ref (o + 8), .ref (o + 9), .null, .null, .null]) hx hb hts inM tyM tyM_ok nmM hown hE hP hz hS 0 (by decide) rfl rfl rfl 10 (by decide) w_326 rfl rfl hin2 rfl (by decide +kernel) rfl rfl (Nat.le_of_ble_eq_true rfl) fM_up dM_init_74 (fun H locs hP hz hS => ?_)
  refine lv_aload_n hx hb dM_init_77 rfl (lv_at hl 0 rfl) ?_
  refine lv_bipush (v := nI 12) hx hb dM_init_78 (by decide) ?_
  refine cn_new (ty := .long) (N := 12) (a0 := (12, .inr (.inl (fun _ => 0)))) hx hb rfl (hts _ w_359) hP hz hS (hE.1.2 3 _ rfl).2 rfl rfl (by decide) (by decide) (Nat.le_of_ble_eq_true rfl) (Nat.le_of_ble_eq_true rfl) dM_init_80 (fun H hP hz hS => ?_)
  refine cn_putF (own := RM) (ci := 2) (C := RM) (T := TM) (N := 14) (v := .ref (o + 10)) (ty := (.array .long)) (f' := fM cs o [.int 0, .int 0, .ref (o + 1), .ref (o + 2), .ref (o + 3), .ref (o + 4), .ref (o + 5), .ref (o + 6), .ref (o + 7), .ref (o + 8), .ref (o + 9), .ref (o + 10), .null, .null]) hx hb hts inM tyM tyM_ok nmM hown hE hP hz hS 0 (by decide) rfl rfl rfl 11 (by decide) w_327 rfl rfl hin2 rfl (by decide +kernel) rfl rfl (Nat.le_of_ble_eq_true rfl) fM_up dM_init_82 (fun H locs hP hz hS => ?_)
  refine lv_aload_n hx hb dM_init_85 rfl (lv_at hl 0 rfl) ?_
  refine lv_bipush (v := nI 12) hx hb dM_init_86 (by decide) ?_
  refine cn_new (ty := .long) (N := 12) (a0 := (12, .inr (.inl (fun _ => 0)))) hx hb rfl (hts _ w_359) hP hz hS (hE.1.2 3 _ rfl).2 rfl rfl (by decide) (by decide) (Nat.le_of_ble_eq_true rfl) (Nat.le_of_ble_eq_true rfl) dM_init_88 (fun H hP hz hS => ?_)
  refine cn_putF (own := RM) (ci := 2) (C := RM) (T := TM) (N := 14) (v := .ref (o + 11)) (ty := (.array .long)) (f' := fM cs o [.int 0, .int 0, .ref (o + 1), .ref (o + 2), .ref (o + 3), .ref (o + 4), .ref (o + 5), .ref (o + 6), .ref (o + 7), .ref (o + 8), .ref (o + 9), .ref (o + 10), .ref (o + 11), .null]) hx hb hts inM tyM tyM_ok nmM hown hE hP hz hS 0 (by decide) rfl rfl rfl 12 (by decide) w_328 rfl rfl hin2 rfl (by decide +kernel) rfl rfl (Nat.le_of_ble_eq_true rfl) fM_up dM_init_90 (fun H locs hP hz hS => ?_)
  refine lv_aload_n hx hb dM_init_93 rfl (lv_at hl 0 rfl) ?_
  refine lv_bipush (v := nI 12) hx hb dM_init_94 (by decide) ?_
  refine cn_new (ty := .long) (N := 12) (a0 := (12, .inr (.inl (fun _ => 0)))) hx hb rfl (hts _ w_359) hP hz hS (hE.1.2 3 _ rfl).2 rfl rfl (by decide) (by decide) (Nat.le_of_ble_eq_true rfl) (Nat.le_of_ble_eq_true rfl) dM_init_96 (fun H hP hz hS => ?_)
  refine cn_putF (own := RM) (ci := 2) (C := RM) (T := TM) (N := 14) (v := .ref (o + 12)) (ty := (.array .long)) (f' := fM cs o [.int 0, .int 0, .ref (o + 1), .ref (o + 2), .ref (o + 3), .ref (o + 4), .ref (o + 5), .ref (o + 6), .ref (o + 7), .ref (o + 8), .ref (o + 9), .ref (o + 10), .ref (o + 11), .ref (o + 12)]) hx hb hts inM tyM tyM_ok nmM hown hE hP hz hS 0 (by decide) rfl rfl rfl 13 (by decide) w_329 rfl rfl hin2 rfl (by decide +kernel) rfl rfl (Nat.le_of_ble_eq_true rfl) fM_up dM_init_98 (fun H locs hP hz hS => ?_)
  have hP : va_P D cls3 (bw (ca o) 13 (fun j => mc_cell cs (ca o) j ((fun _ => (fun _ => 0, fun _ => 0) : Nat → mRow) j))) H := by
    rw [← bw_cong (f := fM cs o [.int 0, .int 0, .ref (o + 1), .ref (o + 2), .ref (o + 3), .ref (o + 4), .ref (o + 5), .ref (o + 6), .ref (o + 7), .ref (o + 8), .ref (o + 9), .ref (o + 10), .ref (o + 11), .ref (o + 12)]) (fun k hk => ?_)]
    · exact hP
    · by_cases h0 : k = 0
      · subst h0; rfl
      · unfold fM; rw [if_neg h0]
  exact W.vret hx hb hr (fun t ht hW => ⟨⟨(fun _ => (fun _ => 0, fun _ => 0)), rfl, ref0, by show va_P _ _ _ t.heap; rw [ht]; exact hP⟩, hS.F ht⟩) hS.2.2 dM_init_101
