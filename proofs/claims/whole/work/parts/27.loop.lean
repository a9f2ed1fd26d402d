/-! THE LAW'S LOOP -/
theorem lw_gt {i L : Nat} (hi : i ≤ 10000) (hL : L ≤ 3072) : (Int32.ofNat L - nI 6 < nI i) ↔ L < i + 6 := by
  have h1 : (Int32.ofNat L - nI 6).toInt = (L : Int) - 6 := by
    rw [Int32.toInt_sub, show (nI 6).toInt = 6 from rfl, Int32.toInt_ofNat_of_lt (by omega)]
    exact Int.bmod_eq_of_le (by omega) (by omega)
  have h2 : (nI i).toInt = (i : Int) := Int32.toInt_ofNat_of_lt (by omega)
  rw [Int32.lt_iff_toInt_lt, h1, h2]
  omega
theorem lw_forget {s : State} {H : Heap} {locs : List Loc} (hS : va_S (gA s.heap.size) s.heap H locs) : ∀ q ∈ locs, s.heap.size ≤ q.base := fun q h => hS.2.2 q h
set_option maxHeartbeats 4000000 in
set_option maxRecDepth 100000 in
theorem law_loop {p : Program} {l : Launch} {e : Env} {s : State} {m : MethodId} {below : List Frame} {meth : Method} {c : Code} {b L : Nat} {xs : Nat → Int32} {D : va_G} {cs : Nat → ClassId} {o oM oL : Nat} (hF : lwF p l s m c b L xs D cs o oM oL) (hr : meth.sig.returnType = ret) (hlocks : meth.locks = false) : ∀ (kf i : Nat), L < i + kf → i ≤ L + 6 → ∀ (A : Ab) (M : Nat → Nat → Int32) (R0 : Nat → mRow) (g : Nat → Int64) (H : Heap) (locs : List Loc) (cells slots : Nat) (ls : Array Slot), Cls A M → Ref A R0 → lwB D cs o oM oL M R0 g H → va_S (gA s.heap.size) s.heap H locs → lv_has ls 7 [(0, .ref b), (1, .ref o), (2, .ref oM), (3, .ref oL), (4, .int (nI i))] → cells ≤ 1000 + i → slots ≤ 5000 + i → W p l e room_1 s m #[Value.ref b] below meth c H locs cells slots (lw_Z below #[Value.ref b] s) (F0 m 23 ls []) := by
  obtain ⟨hx, hb, hml, hown, hts, hX, hbl, hL, hE, hthr, hsZ, hl0, ho, hoM, hoL⟩ := id hF
  intro kf
  induction kf with
  | zero =>
    intro i h1 h2 A M R0 g H locs cells slots ls hC hR hB hS hl hc hs
    refine lv_iload hx hb dL_law_23 (lv_at hl 4 rfl) ?_
    refine lv_aload_n hx hb dL_law_25 rfl (lv_at hl 0 rfl) ?_
    refine va_slen hx hb hX hbl (Nat.not_le.mpr hbl) hS dL_law_26 ?_
    refine lv_bipush (v := nI 6) hx hb dL_law_27 (by decide) ?_
    refine lv_isub hx hb dL_law_29 ?_
    refine lv_icmp_gt (tgt := 661) hx hb dL_law_30 (by decide) (fun h => ?_) (fun h => absurd ((lw_gt (by omega) hL).mpr (by omega)) h)
    refine lv_iconst (v := 1) hx hb dL_law_661 (by decide) ?_
    refine va_forget (lw_forget hS) ?_
    exact W.widen (k := 601024) (n := 7293033) (by omega) (by omega) (lw_ret hx hb hr hlocks dL_law_662)
  | succ kf ih =>
    intro i h1 h2 A M R0 g H locs cells slots ls hC hR hB hS hl hc hs
    refine lv_iload hx hb dL_law_23 (lv_at hl 4 rfl) ?_
    refine lv_aload_n hx hb dL_law_25 rfl (lv_at hl 0 rfl) ?_
    refine va_slen hx hb hX hbl (Nat.not_le.mpr hbl) hS dL_law_26 ?_
    refine lv_bipush (v := nI 6) hx hb dL_law_27 (by decide) ?_
    refine lv_isub hx hb dL_law_29 ?_
    refine lv_icmp_gt (tgt := 661) hx hb dL_law_30 (by decide) (fun h => ?_) (fun h => ?_)
    · refine lv_iconst (v := 1) hx hb dL_law_661 (by decide) ?_
      refine va_forget (lw_forget hS) ?_
      exact W.widen (k := 601024) (n := 7293033) (by omega) (by omega) (lw_ret hx hb hr hlocks dL_law_662)
    · have hi : i + 6 ≤ L := Nat.not_lt.mp (fun z => h ((lw_gt (by omega) hL).mpr z))
      have hcl : cells + 1 ≤ room_1.cells := by
        show cells + 1 ≤ 601024
        omega
      have hsl : slots + 6 ≤ room_1.slots := by
        show slots + 6 ≤ 7293033
        omega
      have kk : lwK p l e s m below meth c b D cs o oM oL i cells slots (lw_Z below #[Value.ref b] s) := by
        intro A M R0 g H locs ls hC hR hB hS hl
        refine lv_iinc (v := nI (i + 6)) (lv' := [(4, .int (nI (i + 6))), (0, .ref b), (1, .ref o), (2, .ref oM), (3, .ref oL)]) hx hb dL_law_655 hl (k := 4) rfl (nI_add i 6) (by decide) rfl (fun ls hl => ?_)
        refine lv_goto (tgt := 23) hx hb dL_law_658 (by decide) ?_
        exact ih (i + 6) (by omega) (by omega) A M R0 g H locs (cells + 1) (slots + 6) ls hC hR hB hS (lv_sub hl [1, 2, 3, 4, 0] rfl) (by omega) (by omega)
      refine lv_aload_n hx hb dL_law_33 rfl (lv_at hl 0 rfl) ?_
      refine lv_iload hx hb dL_law_34 (lv_at hl 4 rfl) ?_
      refine lw_sld hx hb hX hbl hL hS (by omega) dL_law_36 ?_
      refine lv_bipush (v := nI 15) hx hb dL_law_37 (by decide) ?_
      refine lv_iand hx hb dL_law_39 ?_
      generalize xs i &&& nI 15 = x
      by_cases hx0 : 0 ≤ x.toInt ∧ x.toInt ≤ 11
      · have h12 : x.toInt = 0 ∨ x.toInt = 1 ∨ x.toInt = 2 ∨ x.toInt = 3 ∨ x.toInt = 4 ∨ x.toInt = 5 ∨ x.toInt = 6 ∨ x.toInt = 7 ∨ x.toInt = 8 ∨ x.toInt = 9 ∨ x.toInt = 10 ∨ x.toInt = 11 := by omega
        rcases h12 with h12 | h12 | h12 | h12 | h12 | h12 | h12 | h12 | h12 | h12 | h12 | h12
        · refine lv_tableIn (off := 64) (tgt := 104) hx hb dL_law_40 (by omega) (by omega) (by rw [h12]; rfl) (by decide) ?_
          exact lc_add hF hi hC hR hB hS hl hcl hsl kk
        · refine lv_tableIn (off := 101) (tgt := 141) hx hb dL_law_40 (by omega) (by omega) (by rw [h12]; rfl) (by decide) ?_
          exact lc_clear hF hi hC hR hB hS hl hcl hsl kk
        · refine lv_tableIn (off := 112) (tgt := 152) hx hb dL_law_40 (by omega) (by omega) (by rw [h12]; rfl) (by decide) ?_
          exact lc_set hF hi hC hR hB hS hl hcl hsl kk
        · refine lv_tableIn (off := 185) (tgt := 225) hx hb dL_law_40 (by omega) (by omega) (by rw [h12]; rfl) (by decide) ?_
          exact lc_hang hF hi hC hR hB hS hl hcl hsl kk
        · refine lv_tableIn (off := 222) (tgt := 262) hx hb dL_law_40 (by omega) (by omega) (by rw [h12]; rfl) (by decide) ?_
          exact lc_hide hF hi hC hR hB hS hl hcl hsl kk
        · refine lv_tableIn (off := 275) (tgt := 315) hx hb dL_law_40 (by omega) (by omega) (by rw [h12]; rfl) (by decide) ?_
          exact lc_camera hF hi hC hR hB hS hl hcl hsl kk
        · refine lv_tableIn (off := 336) (tgt := 376) hx hb dL_law_40 (by omega) (by omega) (by rw [h12]; rfl) (by decide) ?_
          exact lc_world hF hi hC hR hB hS hl hcl hsl kk
        · refine lv_tableIn (off := 416) (tgt := 456) hx hb dL_law_40 (by omega) (by omega) (by rw [h12]; rfl) (by decide) ?_
          exact lc_model hF hi hC hR hB hS hl hcl hsl kk
        · refine lv_tableIn (off := 496) (tgt := 536) hx hb dL_law_40 (by omega) (by omega) (by rw [h12]; rfl) (by decide) ?_
          exact lc_seen hF hi hC hR hB hS hl hcl hsl kk
        · refine lv_tableIn (off := 509) (tgt := 549) hx hb dL_law_40 (by omega) (by omega) (by rw [h12]; rfl) (by decide) ?_
          exact lc_inOrder hF hi hC hR hB hS hl hcl hsl kk
        · refine lv_tableIn (off := 534) (tgt := 574) hx hb dL_law_40 (by omega) (by omega) (by rw [h12]; rfl) (by decide) ?_
          exact lc_about hF hi hC hR hB hS hl hcl hsl kk
        · refine lv_tableIn (off := 602) (tgt := 642) hx hb dL_law_40 (by omega) (by omega) (by rw [h12]; rfl) (by decide) ?_
          exact lc_count hF hi hC hR hB hS hl hcl hsl kk
      · refine lv_tableOut (tgt := 655) hx hb dL_law_40 (by omega) (by decide) ?_
        exact W.widen (k := cells + 1) (n := slots + 6) (Nat.le_succ _) (Nat.le_add_right _ 6) (kk A M R0 g H locs ls hC hR hB hS hl)
