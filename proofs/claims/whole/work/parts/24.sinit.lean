set_option maxHeartbeats 4000000 in
set_option maxRecDepth 100000 in
theorem kS_init (l : Launch) (D : va_G) (cs : Nat → ClassId) (o : Nat) : Met l yS_init (wc yS_init cS_init 1 none) ({ frames := 6, cells := 161, slots := 2102, locals := 135 } : Room) (va_Pc [.ref o] (cPre D cs o 1 [.int 0, .null, .null, .null, .null, .null, .null, .int 0, .null, .null, .null, .null, .null, .null])) (va_Qv (fun M1 : Nat → Nat → Int32 => Cls Ab0 M1) (fun M1 t => va_P D cls3 (bw (ca o) 162 (fun j => sc_cell cs (ca o) j (M1 j))) t.heap) (gA o)) 161 2102 (gA o) := by
  refine Met.ofW (cc := cS_init) (maxL := 1) (ret := none) (by decide +kernel) rfl ?_
  intro p e s m args below meth c s₁ B hml hv
  obtain ⟨rfl, hz, hP, hE, hao⟩ := hv
  have hx := B.exec
  have hb := B.bytes
  have hr := B.returns
  have hts : ∀ w9 ∈ ws_all, w9.before ([.ref o] : List Value).toArray s = true := fun w9 h => atoms_spec (ws := (wc yS_init cS_init 1 none)) B.pre w9 (List.mem_cons_of_mem _ h)
  have hown : s.vm.findClass RS = some m.cls := findClass_of_methodNamed B.named
  have hlocks := B.notSynchronized
  have hin2 : meth.name = "<init>" := (name_of_methodNamed B.named B.method).1
  have hS : va_S (gA o) s.heap s.heap [] := va_S.rf
  have hP : va_P D cls3 (bw (ca o) 1 (fS cs o [.int 0, .null, .null, .null, .null, .null, .null, .int 0, .null, .null, .null, .null, .null, .null] [.null, .null, .null, .null, .null])) s.heap := bw1 rfl hP
  have hl := lv_entry ([.ref o]) (n := 1) (Nat.le_of_ble_eq_true rfl)
  rw [lg_entry_eq]
  generalize (lg_sl ([.ref o]) ++ List.replicate (1 - (lg_sl ([.ref o])).length) Slot.unset).toArray = ls at hl ⊢
  have hl : lv_has ls 1 [(0, .ref o)] := hl
  refine lv_aload_n hx hb dS_init_0 rfl (lv_at hl 0 rfl) ?_
  refine W.objInit hx hb hown (hts _ w_15) (hts _ w_16) (hts _ w_17) rfl (by rw [hml]; exact hl.1) rfl dS_init_1 (Nat.le_of_ble_eq_true rfl) (Nat.le_of_ble_eq_true rfl) ?_
  refine W.eq (g2 := F0 m 4 ls []) rfl ?_
  refine lv_aload_n hx hb dS_init_4 rfl (lv_at hl 0 rfl) ?_
  refine lv_iconst (v := nI 0) hx hb dS_init_5 (by decide) ?_
  refine cn_put (own := RS) (ci := 1) (C := RS) (T := TS) (N := 14) (v := .int (nI 0)) (ty := .int) (f' := fS cs o [.int 0, .null, .null, .null, .null, .null, .null, .int 0, .null, .null, .null, .null, .null, .null] [.null, .null, .null, .null, .null]) hx hb hts inS tyS tyS_ok nmS hown hE hP hz hS 0 (by decide) rfl rfl rfl 0 (by decide) w_88 rfl rfl (by decide +kernel) rfl rfl (Nat.le_of_ble_eq_true rfl) fS_up dS_init_6 (fun H locs hP hz hS => ?_)
  refine lv_aload_n hx hb dS_init_9 rfl (lv_at hl 0 rfl) ?_
  refine lv_bipush (v := nI 48) hx hb dS_init_10 (by decide) ?_
  refine cn_new (ty := .int) (N := 48) (a0 := (48, .inl (fun _ => 0))) hx hb rfl (hts _ w_42) hP hz hS (hE.1.2 0 _ rfl).2 rfl rfl (by decide) (by decide) (Nat.le_of_ble_eq_true rfl) (Nat.le_of_ble_eq_true rfl) dS_init_12 (fun H hP hz hS => ?_)
  refine cn_putF (own := RS) (ci := 1) (C := RS) (T := TS) (N := 14) (v := .ref (o + 1)) (ty := (.array .int)) (f' := fS cs o [.int 0, .ref (o + 1), .null, .null, .null, .null, .null, .int 0, .null, .null, .null, .null, .null, .null] [.null, .null, .null, .null, .null]) hx hb hts inS tyS tyS_ok nmS hown hE hP hz hS 0 (by decide) rfl rfl rfl 1 (by decide) w_89 rfl rfl hin2 rfl (by decide +kernel) rfl rfl (Nat.le_of_ble_eq_true rfl) fS_up dS_init_14 (fun H locs hP hz hS => ?_)
  refine lv_aload_n hx hb dS_init_17 rfl (lv_at hl 0 rfl) ?_
  refine lv_bipush (v := nI 48) hx hb dS_init_18 (by decide) ?_
  refine cn_new (ty := .int) (N := 48) (a0 := (48, .inl (fun _ => 0))) hx hb rfl (hts _ w_42) hP hz hS (hE.1.2 0 _ rfl).2 rfl rfl (by decide) (by decide) (Nat.le_of_ble_eq_true rfl) (Nat.le_of_ble_eq_true rfl) dS_init_20 (fun H hP hz hS => ?_)
  refine cn_putF (own := RS) (ci := 1) (C := RS) (T := TS) (N := 14) (v := .ref (o + 2)) (ty := (.array .int)) (f' := fS cs o [.int 0, .ref (o + 1), .ref (o + 2), .null, .null, .null, .null, .int 0, .null, .null, .null, .null, .null, .null] [.null, .null, .null, .null, .null]) hx hb hts inS tyS tyS_ok nmS hown hE hP hz hS 0 (by decide) rfl rfl rfl 2 (by decide) w_90 rfl rfl hin2 rfl (by decide +kernel) rfl rfl (Nat.le_of_ble_eq_true rfl) fS_up dS_init_22 (fun H locs hP hz hS => ?_)
  refine lv_aload_n hx hb dS_init_25 rfl (lv_at hl 0 rfl) ?_
  refine lv_bipush (v := nI 48) hx hb dS_init_26 (by decide) ?_
  refine cn_new (ty := .boolean) (N := 48) (a0 := (48, .inl (fun _ => 0))) hx hb rfl (hts _ w_43) hP hz hS (hE.1.2 1 _ rfl).2 rfl rfl (by decide) (by decide) (Nat.le_of_ble_eq_true rfl) (Nat.le_of_ble_eq_true rfl) dS_init_28 (fun H hP hz hS => ?_)
  refine cn_putF (own := RS) (ci := 1) (C := RS) (T := TS) (N := 14) (v := .ref (o + 3)) (ty := (.array .boolean)) (f' := fS cs o [.int 0, .ref (o + 1), .ref (o + 2), .ref (o + 3), .null, .null, .null, .int 0, .null, .null, .null, .null, .null, .null] [.null, .null, .null, .null, .null]) hx hb hts inS tyS tyS_ok nmS hown hE hP hz hS 0 (by decide) rfl rfl rfl 3 (by decide) w_91 rfl rfl hin2 rfl (by decide +kernel) rfl rfl (Nat.le_of_ble_eq_true rfl) fS_up dS_init_30 (fun H locs hP hz hS => ?_)
  refine lv_aload_n hx hb dS_init_33 rfl (lv_at hl 0 rfl) ?_
  refine lv_bipush (v := nI 48) hx hb dS_init_34 (by decide) ?_
  refine lv_bipush (v := nI 9) hx hb dS_init_36 (by decide) ?_
  refine cn_mna (N := 48) (K := 9) hx hb hown (hts _ w_18) hao.use (hts _ w_42) hP hz hS (hE.1.2 2 _ rfl).2 (hE.1.2 0 _ rfl).2 rfl (fun i hi => by rw [fS_rows (by omega) (by omega)]; exact sc_row5 hi) (by decide) (by decide) (Nat.le_of_ble_eq_true rfl) (Nat.le_of_ble_eq_true rfl) dS_init_38 (fun H hP hz hS => ?_)
  sorry
