set_option maxHeartbeats 4000000 in
set_option maxRecDepth 100000 in
theorem kS_init (l : Launch) (D : va_G) (cs : Nat → ClassId) (o : Nat) : Met l yS_init (wc yS_init cS_init 1 none) ({ frames := 6, cells := 161, slots := 2102, locals := 135 } : Room) (va_Pc [.ref o] (cPre D cs o 1 [.int 0, .null, .null, .null, .null, .null, .null, .int 0, .null, .null, .null, .null, .null, .null])) (va_Qv (fun M1 : Nat → Nat → Int32 => Cls Ab0 M1) (fun M1 t => va_P D cls3 (bw (ca o) 162 (fun j => sc_cell cs (ca o) j (M1 j))) t.heap) (gA o)) 161 2102 (gA o) := by
  refine Met.ofW (cc := cS_init) (maxL := 1) (ret := none) (by decide +kernel) rfl ?_
  intro p e s m args below meth c s₁ B hml hv
  obtain ⟨rfl, hz, hP, hE, hao⟩ := hv
  have hx := B.exec
  have hb := B.bytes
  have hr := B.returns
  have hts : ∀ w9 ∈ ws_all, w9.before ([.ref o] : List Value).toArray s = true := fun w9 h => atoms_spec (ws := (wc yS_init cS_init 1 none)) B.pre w9 (List.mem_cons_of_mem _ h)
  have hown : s.vm.findClass RS = some m.cls := findClass_of_methodNamed B.named
  have hlocks := B.notSynchronized
  have hin2 : meth.name = "<init>" := (name_of_methodNamed B.named B.method).1
  have hS : va_S (gA o) s.heap s.heap [] := va_S.rf
  have hP : va_P D cls3 (bw (ca o) 1 (fS cs o [.int 0, .null, .null, .null, .null, .null, .null, .int 0, .null, .null, .null, .null, .null, .null] [.null, .null, .null, .null, .null])) s.heap := bw1 rfl hP
  have hl := lv_entry ([.ref o]) (n := 1) (Nat.le_of_ble_eq_true rfl)
  rw [lg_entry_eq]
  generalize (lg_sl ([.ref o]) ++ List.replicate (1 - (lg_sl ([.ref o])).length) Slot.unset).toArray = ls at hl ⊢
  have hl : lv_has ls 1 [(0, .ref o)] := hl
  refine lv_aload_n hx hb dS_init_0 rfl (lv_at hl 0 rfl) ?_
  refine W.objInit hx hb hown (hts _ w_15) (hts _ w_16) (hts _ w_17) rfl (by rw [hml]; exact hl.1) rfl dS_init_1 (Nat.le_of_ble_eq_true rfl) (Nat.le_of_ble_eq_true rfl) ?_
  refine W.eq (g2 := F0 m 4 ls []) rfl ?_
  refine lv_aload_n hx hb dS_init_4 rfl (lv_at hl 0 rfl) ?_
  refine lv_iconst (v := nI 0) hx hb dS_init_5 (by decide) ?_
  refine cn_put (own := RS) (ci := 1) (C := RS) (T := TS) (N := 14) (v := .int (nI 0)) (ty := .int) (f' := fS cs o [.int 0, .null, .null, .null, .null, .null, .null, .int 0, .null, .null, .null, .null, .null, .null] [.null, .null, .null, .null, .null]) hx hb hts inS tyS tyS_ok nmS hown hE hP hz hS 0 (by decide) rfl rfl rfl 0 (by decide) w_88 rfl rfl (by decide +kernel) rfl rfl (Nat.le_of_ble_eq_true rfl) fS_up dS_init_6 (fun H locs hP hz hS => ?_)
  refine lv_aload_n hx hb dS_init_9 rfl (lv_at hl 0 rfl) ?_
  refine lv_bipush (v := nI 48) hx hb dS_init_10 (by decide) ?_
  refine cn_new (ty := .int) (N := 48) (a0 := (48, .inl (fun _ => 0))) hx hb rfl (hts _ w_42) hP hz hS (hE.1.2 0 _ rfl).2 rfl rfl (by decide) (by decide) (Nat.le_of_ble_eq_true rfl) (Nat.le_of_ble_eq_true rfl) dS_init_12 (fun H hP hz hS => ?_)
  refine cn_putF (own := RS) (ci := 1) (C := RS) (T := TS) (N := 14) (v := .ref (o + 1)) (ty := (.array .int)) (f' := fS cs o [.int 0, .ref (o + 1), .null, .null, .null, .null, .null, .int 0, .null, .null, .null, .null, .null, .null] [.null, .null, .null, .null, .null]) hx hb hts inS tyS tyS_ok nmS hown hE hP hz hS 0 (by decide) rfl rfl rfl 1 (by decide) w_89 rfl rfl hin2 rfl (by decide +kernel) rfl rfl (Nat.le_of_ble_eq_true rfl) fS_up dS_init_14 (fun H locs hP hz hS => ?_)
  refine lv_aload_n hx hb dS_init_17 rfl (lv_at hl 0 rfl) ?_
  refine lv_bipush (v := nI 48) hx hb dS_init_18 (by decide) ?_
  refine cn_new (ty := .int) (N := 48) (a0 := (48, .inl (fun _ => 0))) hx hb rfl (hts _ w_42) hP hz hS (hE.1.2 0 _ rfl).2 rfl rfl (by decide) (by decide) (Nat.le_of_ble_eq_true rfl) (Nat.le_of_ble_eq_true rfl) dS_init_20 (fun H hP hz hS => ?_)
  refine cn_putF (own := RS) (ci := 1) (C := RS) (T := TS) (N := 14) (v := .ref (o + 2)) (ty := (.array .int)) (f' := fS cs o [.int 0, .ref (o + 1), .ref (o + 2), .null, .null, .null, .null, .int 0, .null, .null, .null, .null, .null, .null] [.null, .null, .null, .null, .null]) hx hb hts inS tyS tyS_ok nmS hown hE hP hz hS 0 (by decide) rfl rfl rfl 2 (by decide) w_90 rfl rfl hin2 rfl (by decide +kernel) rfl rfl (Nat.le_of_ble_eq_true rfl) fS_up dS_init_22 (fun H locs hP hz hS => ?_)
  refine lv_aload_n hx hb dS_init_25 rfl (lv_at hl 0 rfl) ?_
  refine lv_bipush (v := nI 48) hx hb dS_init_26 (by decide) ?_
  refine cn_new (ty := .boolean) (N := 48) (a0 := (48, .inl (fun _ => 0))) hx hb rfl (hts _ w_43) hP hz hS (hE.1.2 1 _ rfl).2 rfl rfl (by decide) (by decide) (Nat.le_of_ble_eq_true rfl) (Nat.le_of_ble_eq_true rfl) dS_init_28 (fun H hP hz hS => ?_)
  refine cn_putF (own := RS) (ci := 1) (C := RS) (T := TS) (N := 14) (v := .ref (o + 3)) (ty := (.array .boolean)) (f' := fS cs o [.int 0, .ref (o + 1), .ref (o + 2), .ref (o + 3), .null, .null, .null, .int 0, .null, .null, .null, .null, .null, .null] [.null, .null, .null, .null, .null]) hx hb hts inS tyS tyS_ok nmS hown hE hP hz hS 0 (by decide) rfl rfl rfl 3 (by decide) w_91 rfl rfl hin2 rfl (by decide +kernel) rfl rfl (Nat.le_of_ble_eq_true rfl) fS_up dS_init_30 (fun H locs hP hz hS => ?_)
  refine lv_aload_n hx hb dS_init_33 rfl (lv_at hl 0 rfl) ?_
  refine lv_bipush (v := nI 48) hx hb dS_init_34 (by decide) ?_
  refine lv_bipush (v := nI 9) hx hb dS_init_36 (by decide) ?_
  refine cn_mna (N := 48) (K := 9) hx hb hown (hts _ w_18) hao.use (hts _ w_42) hP hz hS (hE.1.2 2 _ rfl).2 (hE.1.2 0 _ rfl).2 rfl (fun i hi => by rw [fS_rows (by omega) (by omega)]; exact sc_row5 hi) (by decide) (by decide) (Nat.le_of_ble_eq_true rfl) (Nat.le_of_ble_eq_true rfl) dS_init_38 (fun H hP hz hS => ?_)
  have hP : va_P D cls3 (bw (ca o) 53 (fS cs o [.int 0, .ref (o + 1), .ref (o + 2), .ref (o + 3), .null, .null, .null, .int 0, .null, .null, .null, .null, .null, .null] [.null, .null, .null, .null, .null])) H := hP
  have hz : H.size = o + 53 := hz
  refine cn_putF (own := RS) (ci := 1) (C := RS) (T := TS) (N := 14) (v := .ref (o + 4)) (ty := (.array (.array .int))) (f' := fS cs o [.int 0, .ref (o + 1), .ref (o + 2), .ref (o + 3), .ref (o + 4), .null, .null, .int 0, .null, .null, .null, .null, .null, .null] [.null, .null, .null, .null, .null]) hx hb hts inS tyS tyS_ok nmS hown hE hP hz hS 0 (by decide) rfl rfl rfl 4 (by decide) w_92 rfl rfl hin2 rfl (by decide +kernel) rfl rfl (Nat.le_of_ble_eq_true rfl) fS_up dS_init_42 (fun H locs hP hz hS => ?_)
  refine lv_aload_n hx hb dS_init_45 rfl (lv_at hl 0 rfl) ?_
  refine lv_bipush (v := nI 48) hx hb dS_init_46 (by decide) ?_
  refine lv_bipush (v := nI 12) hx hb dS_init_48 (by decide) ?_
  refine cn_mna (N := 48) (K := 12) hx hb hown (hts _ w_18) hao.use (hts _ w_42) hP hz hS (hE.1.2 2 _ rfl).2 (hE.1.2 0 _ rfl).2 rfl (fun i hi => by rw [fS_rows (by omega) (by omega)]; exact sc_row54 hi) (by decide) (by decide) (Nat.le_of_ble_eq_true rfl) (Nat.le_of_ble_eq_true rfl) dS_init_50 (fun H hP hz hS => ?_)
  have hP : va_P D cls3 (bw (ca o) 102 (fS cs o [.int 0, .ref (o + 1), .ref (o + 2), .ref (o + 3), .ref (o + 4), .null, .null, .int 0, .null, .null, .null, .null, .null, .null] [.null, .null, .null, .null, .null])) H := hP
  have hz : H.size = o + 102 := hz
  refine cn_putF (own := RS) (ci := 1) (C := RS) (T := TS) (N := 14) (v := .ref (o + 53)) (ty := (.array (.array .int))) (f' := fS cs o [.int 0, .ref (o + 1), .ref (o + 2), .ref (o + 3), .ref (o + 4), .ref (o + 53), .null, .int 0, .null, .null, .null, .null, .null, .null] [.null, .null, .null, .null, .null]) hx hb hts inS tyS tyS_ok nmS hown hE hP hz hS 0 (by decide) rfl rfl rfl 5 (by decide) w_93 rfl rfl hin2 rfl (by decide +kernel) rfl rfl (Nat.le_of_ble_eq_true rfl) fS_up dS_init_54 (fun H locs hP hz hS => ?_)
  refine lv_aload_n hx hb dS_init_57 rfl (lv_at hl 0 rfl) ?_
  refine lv_bipush (v := nI 48) hx hb dS_init_58 (by decide) ?_
  refine lv_bipush (v := nI 12) hx hb dS_init_60 (by decide) ?_
  refine cn_mna (N := 48) (K := 12) hx hb hown (hts _ w_18) hao.use (hts _ w_42) hP hz hS (hE.1.2 2 _ rfl).2 (hE.1.2 0 _ rfl).2 rfl (fun i hi => by rw [fS_rows (by omega) (by omega)]; exact sc_row103 hi) (by decide) (by decide) (Nat.le_of_ble_eq_true rfl) (Nat.le_of_ble_eq_true rfl) dS_init_62 (fun H hP hz hS => ?_)
  have hP : va_P D cls3 (bw (ca o) 151 (fS cs o [.int 0, .ref (o + 1), .ref (o + 2), .ref (o + 3), .ref (o + 4), .ref (o + 53), .null, .int 0, .null, .null, .null, .null, .null, .null] [.null, .null, .null, .null, .null])) H := hP
  have hz : H.size = o + 151 := hz
  refine cn_putF (own := RS) (ci := 1) (C := RS) (T := TS) (N := 14) (v := .ref (o + 102)) (ty := (.array (.array .int))) (f' := fS cs o [.int 0, .ref (o + 1), .ref (o + 2), .ref (o + 3), .ref (o + 4), .ref (o + 53), .ref (o + 102), .int 0, .null, .null, .null, .null, .null, .null] [.null, .null, .null, .null, .null]) hx hb hts inS tyS tyS_ok nmS hown hE hP hz hS 0 (by decide) rfl rfl rfl 6 (by decide) w_94 rfl rfl hin2 rfl (by decide +kernel) rfl rfl (Nat.le_of_ble_eq_true rfl) fS_up dS_init_66 (fun H locs hP hz hS => ?_)
  refine lv_aload_n hx hb dS_init_69 rfl (lv_at hl 0 rfl) ?_
  refine lv_iconst (v := nI 0) hx hb dS_init_70 (by decide) ?_
  refine cn_put (own := RS) (ci := 1) (C := RS) (T := TS) (N := 14) (v := .int (nI 0)) (ty := .int) (f' := fS cs o [.int 0, .ref (o + 1), .ref (o + 2), .ref (o + 3), .ref (o + 4), .ref (o + 53), .ref (o + 102), .int 0, .null, .null, .null, .null, .null, .null] [.null, .null, .null, .null, .null]) hx hb hts inS tyS tyS_ok nmS hown hE hP hz hS 0 (by decide) rfl rfl rfl 7 (by decide) w_95 rfl rfl (by decide +kernel) rfl rfl (Nat.le_of_ble_eq_true rfl) fS_up dS_init_71 (fun H locs hP hz hS => ?_)
  refine lv_aload_n hx hb dS_init_74 rfl (lv_at hl 0 rfl) ?_
  refine lv_bipush (v := nI 9) hx hb dS_init_75 (by decide) ?_
  refine cn_new (ty := .int) (N := 9) (a0 := (9, .inl (fun _ => 0))) hx hb rfl (hts _ w_42) hP hz hS (hE.1.2 0 _ rfl).2 rfl rfl (by decide) (by decide) (Nat.le_of_ble_eq_true rfl) (Nat.le_of_ble_eq_true rfl) dS_init_77 (fun H hP hz hS => ?_)
  refine cn_putF (own := RS) (ci := 1) (C := RS) (T := TS) (N := 14) (v := .ref (o + 151)) (ty := (.array .int)) (f' := fS cs o [.int 0, .ref (o + 1), .ref (o + 2), .ref (o + 3), .ref (o + 4), .ref (o + 53), .ref (o + 102), .int 0, .ref (o + 151), .null, .null, .null, .null, .null] [.null, .null, .null, .null, .null]) hx hb hts inS tyS tyS_ok nmS hown hE hP hz hS 0 (by decide) rfl rfl rfl 8 (by decide) w_96 rfl rfl hin2 rfl (by decide +kernel) rfl rfl (Nat.le_of_ble_eq_true rfl) fS_up dS_init_79 (fun H locs hP hz hS => ?_)
  refine lv_aload_n hx hb dS_init_82 rfl (lv_at hl 0 rfl) ?_
  refine lv_bipush (v := nI 12) hx hb dS_init_83 (by decide) ?_
  refine cn_new (ty := .int) (N := 12) (a0 := (12, .inl (fun _ => 0))) hx hb rfl (hts _ w_42) hP hz hS (hE.1.2 0 _ rfl).2 rfl rfl (by decide) (by decide) (Nat.le_of_ble_eq_true rfl) (Nat.le_of_ble_eq_true rfl) dS_init_85 (fun H hP hz hS => ?_)
  refine cn_putF (own := RS) (ci := 1) (C := RS) (T := TS) (N := 14) (v := .ref (o + 152)) (ty := (.array .int)) (f' := fS cs o [.int 0, .ref (o + 1), .ref (o + 2), .ref (o + 3), .ref (o + 4), .ref (o + 53), .ref (o + 102), .int 0, .ref (o + 151), .ref (o + 152), .null, .null, .null, .null] [.null, .null, .null, .null, .null]) hx hb hts inS tyS tyS_ok nmS hown hE hP hz hS 0 (by decide) rfl rfl rfl 9 (by decide) w_97 rfl rfl hin2 rfl (by decide +kernel) rfl rfl (Nat.le_of_ble_eq_true rfl) fS_up dS_init_87 (fun H locs hP hz hS => ?_)
  refine lv_aload_n hx hb dS_init_90 rfl (lv_at hl 0 rfl) ?_
  refine lv_bipush (v := nI 48) hx hb dS_init_91 (by decide) ?_
  refine cn_new (ty := .boolean) (N := 48) (a0 := (48, .inl (fun _ => 0))) hx hb rfl (hts _ w_43) hP hz hS (hE.1.2 1 _ rfl).2 rfl rfl (by decide) (by decide) (Nat.le_of_ble_eq_true rfl) (Nat.le_of_ble_eq_true rfl) dS_init_93 (fun H hP hz hS => ?_)
  refine cn_putF (own := RS) (ci := 1) (C := RS) (T := TS) (N := 14) (v := .ref (o + 153)) (ty := (.array .boolean)) (f' := fS cs o [.int 0, .ref (o + 1), .ref (o + 2), .ref (o + 3), .ref (o + 4), .ref (o + 53), .ref (o + 102), .int 0, .ref (o + 151), .ref (o + 152), .ref (o + 153), .null, .null, .null] [.null, .null, .null, .null, .null]) hx hb hts inS tyS tyS_ok nmS hown hE hP hz hS 0 (by decide) rfl rfl rfl 10 (by decide) w_98 rfl rfl hin2 rfl (by decide +kernel) rfl rfl (Nat.le_of_ble_eq_true rfl) fS_up dS_init_95 (fun H locs hP hz hS => ?_)
  refine lv_aload_n hx hb dS_init_98 rfl (lv_at hl 0 rfl) ?_
  refine lv_bipush (v := nI 48) hx hb dS_init_99 (by decide) ?_
  refine cn_new (ty := .int) (N := 48) (a0 := (48, .inl (fun _ => 0))) hx hb rfl (hts _ w_42) hP hz hS (hE.1.2 0 _ rfl).2 rfl rfl (by decide) (by decide) (Nat.le_of_ble_eq_true rfl) (Nat.le_of_ble_eq_true rfl) dS_init_101 (fun H hP hz hS => ?_)
  refine cn_putF (own := RS) (ci := 1) (C := RS) (T := TS) (N := 14) (v := .ref (o + 154)) (ty := (.array .int)) (f' := fS cs o [.int 0, .ref (o + 1), .ref (o + 2), .ref (o + 3), .ref (o + 4), .ref (o + 53), .ref (o + 102), .int 0, .ref (o + 151), .ref (o + 152), .ref (o + 153), .ref (o + 154), .null, .null] [.null, .null, .null, .null, .null]) hx hb hts inS tyS tyS_ok nmS hown hE hP hz hS 0 (by decide) rfl rfl rfl 11 (by decide) w_99 rfl rfl hin2 rfl (by decide +kernel) rfl rfl (Nat.le_of_ble_eq_true rfl) fS_up dS_init_103 (fun H locs hP hz hS => ?_)
  refine lv_aload_n hx hb dS_init_106 rfl (lv_at hl 0 rfl) ?_
  refine lv_bipush (v := nI 48) hx hb dS_init_107 (by decide) ?_
  refine cn_new (ty := .int) (N := 48) (a0 := (48, .inl (fun _ => 0))) hx hb rfl (hts _ w_42) hP hz hS (hE.1.2 0 _ rfl).2 rfl rfl (by decide) (by decide) (Nat.le_of_ble_eq_true rfl) (Nat.le_of_ble_eq_true rfl) dS_init_109 (fun H hP hz hS => ?_)
  refine cn_putF (own := RS) (ci := 1) (C := RS) (T := TS) (N := 14) (v := .ref (o + 155)) (ty := (.array .int)) (f' := fS cs o [.int 0, .ref (o + 1), .ref (o + 2), .ref (o + 3), .ref (o + 4), .ref (o + 53), .ref (o + 102), .int 0, .ref (o + 151), .ref (o + 152), .ref (o + 153), .ref (o + 154), .ref (o + 155), .null] [.null, .null, .null, .null, .null]) hx hb hts inS tyS tyS_ok nmS hown hE hP hz hS 0 (by decide) rfl rfl rfl 12 (by decide) w_100 rfl rfl hin2 rfl (by decide +kernel) rfl rfl (Nat.le_of_ble_eq_true rfl) fS_up dS_init_111 (fun H locs hP hz hS => ?_)
  refine lv_aload_n hx hb dS_init_114 rfl (lv_at hl 0 rfl) ?_
  refine cn_newc (own := RS) (C := RT) (T := TT) (N := 5) (ci := 0) (fs := [.null, .null, .null, .null, .null]) hx hb hts inT tyT tyT_ok hown (hts _ w_20) (hts _ w_21) (hts _ w_2) hE hP hz hS rfl (by decide +kernel) rfl (Nat.le_of_ble_eq_true rfl) (Nat.le_of_ble_eq_true rfl) dS_init_115 (fun H hP hz hS _ => ?_)
  refine lv_dup hx hb dS_init_118 rfl ?_
  refine va_callv (bc_runIN (own := RS) (host := RS) (b := o + 156) (As := []) (rest := [.ref (o + 156), .ref o]) hx hb (hml.trans hl.1.symm) hown hts (kT_init l D cs (o + 156)) w_24 (hE.2 _ nst_55) w_23 w_2 rfl hd_T_init rfl ⟨rfl, rfl⟩ ⟨Nat.le_of_ble_eq_true rfl, Nat.le_of_ble_eq_true rfl⟩ (fun _ _ _ _ h => h.calling) (fun U hU hW => ⟨by rw [hU, hz], by rw [hU]; exact bw1_of hP (k := 156) (by decide) rfl, hE.warm hW, hao.alike hW.alike⟩) rfl (Nat.le_of_ble_eq_true rfl) dS_init_119 ⟨Nat.le_of_ble_eq_true rfl, Nat.le_of_ble_eq_true rfl⟩) hS (fun q _ h => Nat.le_trans (Nat.le_add_right _ _) h) (fun q h => Nat.le_trans (Nat.le_add_right _ _) h) (fun u t H1 locs1 ht _ _ hB hz1 hk1 hS => ?_)
  have hP : va_P D cls3 (bw (ca o) 162 (fS cs o [.int 0, .ref (o + 1), .ref (o + 2), .ref (o + 3), .ref (o + 4), .ref (o + 53), .ref (o + 102), .int 0, .ref (o + 151), .ref (o + 152), .ref (o + 153), .ref (o + 154), .ref (o + 155), .null] [.ref (o + 157), .ref (o + 158), .ref (o + 159), .ref (o + 160), .ref (o + 161)])) H1 := fS_join hP hz hk1 (by rw [ht] at hB; exact hB.1)
  have hz : H1.size = o + 162 := by rw [← ht]; exact hB.2
  clear hB hz1 hk1 ht
  generalize hHg : H1 = H at hP hz hS ⊢
  clear hHg
  generalize hLg : locs1 = locs at hS ⊢
  clear hLg
  refine cn_putF (own := RS) (ci := 1) (C := RS) (T := TS) (N := 14) (v := .ref (o + 156)) (ty := (.object "SceneTree$Turner")) (f' := fS cs o [.int 0, .ref (o + 1), .ref (o + 2), .ref (o + 3), .ref (o + 4), .ref (o + 53), .ref (o + 102), .int 0, .ref (o + 151), .ref (o + 152), .ref (o + 153), .ref (o + 154), .ref (o + 155), .ref (o + 156)] [.ref (o + 157), .ref (o + 158), .ref (o + 159), .ref (o + 160), .ref (o + 161)]) hx hb hts inS tyS tyS_ok nmS hown hE hP hz hS 0 (by decide) rfl rfl rfl 13 (by decide) w_101 rfl rfl hin2 rfl (by decide +kernel) rfl rfl (Nat.le_of_ble_eq_true rfl) fS_up dS_init_122 (fun H locs hP hz hS => ?_)
  refine lv_aload_n hx hb dS_init_125 rfl (lv_at hl 0 rfl) ?_
  have hP := fS_done hP
  refine va_callv (bc_runV (own := RS) (C := RS) (b := o) (As := []) (rest := []) hx hb (hml.trans hl.1.symm) hown hts (kS_refreshView l D cs (ca o) (ca_I o 162) (fun _ _ => 0) H.size ⟨fun _ _ => rfl, fun _ _ => rfl, fun _ _ => rfl⟩) w_47 w_44 w_46 ws_sel_S_refreshView w_1 ⟨rfl, hd_S_refreshView⟩ rfl ⟨rfl, rfl⟩ ⟨Nat.le_of_ble_eq_true rfl, Nat.le_of_ble_eq_true rfl⟩ (fun _ _ _ _ h => h.calling) (bc_recv (r := (RS, TS, 14)) hE hP 0 (by decide) rfl rfl) (fun U hU hW => ⟨by rw [hU], by rw [hU]; exact hP, hE.warm hW⟩) rfl (Nat.le_of_ble_eq_true rfl) dS_init_126 ⟨Nat.le_of_ble_eq_true rfl, Nat.le_of_ble_eq_true rfl⟩) hS (fun q hq h => ?_) (fun q h => ?_) (fun M1 t H1 locs1 ht _ hw hB hz1 hk1 hS => ?_)
  · exact cA_of hz h
  · exact cA_of hz h
  rw [ht] at hB
  exact W.vret hx hb hr (fun t ht hW => ⟨⟨M1, rfl, cls0 hw, by show va_P _ _ _ t.heap; rw [ht]; exact hB⟩, hS.F ht⟩) hS.2.2 dS_init_129
