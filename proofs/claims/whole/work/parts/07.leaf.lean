/-! PURE WORDS of the leaves -/
/-- r is 1 where P holds, 0 where not -/
def jb (P : Prop) (r : Int32) : Prop := (r = 1 ∧ P) ∨ (r = 0 ∧ ¬ P)
theorem jb.t {P : Prop} {r : Int32} (h : jb P r) (hr : ¬ r = 0) : P := by
  rcases h with h | h
  · exact h.2
  · exact absurd h.1 hr
theorem jb.f {P : Prop} {r : Int32} (h : jb P r) (hr : r = 0) : ¬ P := by
  rcases h with h | h
  · rw [h.1] at hr; exact absurd hr (by decide)
  · exact h.2
theorem jb.nar {P : Prop} {r : Int32} (h : jb P r) : narrow .boolean (.int r) = .int r := by
  rcases h with h | h <;> rw [h.1] <;> rfl
theorem jb.one {P : Prop} (h : P) : jb P (nI 1) := Or.inl ⟨rfl, h⟩
theorem jb.zero {P : Prop} (h : ¬ P) : jb P (nI 0) := Or.inr ⟨rfl, h⟩
theorem jb.eq {P Q : Prop} {r q : Int32} (h : jb P r) (h' : jb Q q) (hpq : P ↔ Q) : r = q := by
  rcases h with h | h <;> rcases h' with h' | h'
  · rw [h.1, h'.1]
  · exact absurd (hpq.mp h.2) h'.2
  · exact absurd (hpq.mpr h'.2) h.2
  · rw [h.1, h'.1]
def jmul (a b : Int64) : Int64 := (a * b) >>> ((nI 16).toInt64 &&& 63)
def jmin (v : Int64) : Int64 := if v < 16777216 then v else 16777216
def jcl (v : Int64) : Int64 := if jmin v < (-16777216) then (-16777216) else jmin v
def jw (what : Int32) : Int32 := if what = 0 then 4194304 else 1048576
def jcan (w v : Int32) : Prop := -w ≤ v ∧ v ≤ w
def jfm (x y : Int32) : Int32 := if 0 ≤ x ^^^ y then x - x / y * y else if x - x / y * y = 0 then x - x / y * y else x - x / y * y + y
def jfd (x y : Int64) : Int64 := if 0 ≤ lg_cmp (x ^^^ y) 0 then x / y else if lg_cmp (x / y * y) x = 0 then x / y else x / y - 1
def jang (k : Int32) : Int32 := jfm k (nI 4096)
def jhalf (a : Int32) : Int32 := if nI 2048 ≤ a then a - nI 2048 else a
def jp (h : Int32) : Int64 := h.toInt64 * (nI 2048 - h).toInt64
def jdv (p : Int64) : Int64 := 20971520 - 4 * p
def jht (p : Int64) : Int64 := if lg_cmp (jdv p) 0 ≤ 0 then 0 else jfd (1048576 * p) (jdv p)
def jsg (a : Int32) (h : Int64) : Int64 := if nI 2048 ≤ a then -h else h
def jsin (k : Int32) : Int32 := (jsg (jang k) (jht (jp (jhalf (jang k))))).toInt32

set_option maxHeartbeats 4000000 in
set_option maxRecDepth 100000 in
/-- a times b in 65536ths -/
theorem kS_mul (l : Launch) (a b : Int64) : Met l yS_mul (wc yS_mul cS_mul 4 (some .long)) ({ frames := 0, cells := 0, slots := 0, locals := 0 } : Room) (va_Pc [.long a, .long b] (fun _ => True)) (vp_Sl (fun r => r = jmul a b)) 0 0 (fun _ => False) := by
  refine Met.ofW (cc := cS_mul) (maxL := 4) (ret := (some .long)) (by decide +kernel) rfl ?_
  intro p e s m args below meth c s₁ B hml hv
  obtain ⟨rfl, -⟩ := hv
  have hx := B.exec
  have hb := B.bytes
  have hr := B.returns
  have hts : ∀ w9 ∈ ws_all, w9.before ([.long a, .long b] : List Value).toArray s = true := fun w9 h => atoms_spec (ws := (wc yS_mul cS_mul 4 (some .long))) B.pre w9 (List.mem_cons_of_mem _ h)
  have hown : s.vm.findClass RS = some m.cls := findClass_of_methodNamed B.named
  have hlocks := B.notSynchronized
  have hl := lv_entry ([.long a, .long b]) (n := 4) (Nat.le_of_ble_eq_true rfl)
  rw [lg_entry_eq]
  generalize (lg_sl ([.long a, .long b]) ++ List.replicate (4 - (lg_sl ([.long a, .long b])).length) Slot.unset).toArray = ls at hl ⊢
  have hl : lv_has ls 4 [(0, .long a), (2, .long b)] := hl
  refine lv_lload_n hx hb dS_mul_0 rfl (lv_at hl 0 rfl) ?_
  refine lv_lload_n hx hb dS_mul_1 rfl (lv_at hl 1 rfl) ?_
  refine lv_lmul hx hb dS_mul_2 ?_
  refine lv_bipush (v := nI 16) hx hb dS_mul_3 (by decide) ?_
  refine lv_lshr (v := (a * b) >>> ((nI 16).toInt64 &&& 63)) hx hb dS_mul_5 rfl ?_
  exact W.lret (v := (a * b) >>> ((nI 16).toInt64 &&& 63)) hx hb hr (fun t ht hW => ⟨_, rfl, rfl, ht⟩) (fun _ h => nomatch h) dS_mul_6

set_option maxHeartbeats 4000000 in
set_option maxRecDepth 100000 in
/-- a times b in 65536ths -/
theorem kM_mul (l : Launch) (a b : Int64) : Met l yM_mul (wc yM_mul cM_mul 4 (some .long)) ({ frames := 0, cells := 0, slots := 0, locals := 0 } : Room) (va_Pc [.long a, .long b] (fun _ => True)) (vp_Sl (fun r => r = jmul a b)) 0 0 (fun _ => False) := by
  refine Met.ofW (cc := cM_mul) (maxL := 4) (ret := (some .long)) (by decide +kernel) rfl ?_
  intro p e s m args below meth c s₁ B hml hv
  obtain ⟨rfl, -⟩ := hv
  have hx := B.exec
  have hb := B.bytes
  have hr := B.returns
  have hts : ∀ w9 ∈ ws_all, w9.before ([.long a, .long b] : List Value).toArray s = true := fun w9 h => atoms_spec (ws := (wc yM_mul cM_mul 4 (some .long))) B.pre w9 (List.mem_cons_of_mem _ h)
  have hown : s.vm.findClass RM = some m.cls := findClass_of_methodNamed B.named
  have hlocks := B.notSynchronized
  have hl := lv_entry ([.long a, .long b]) (n := 4) (Nat.le_of_ble_eq_true rfl)
  rw [lg_entry_eq]
  generalize (lg_sl ([.long a, .long b]) ++ List.replicate (4 - (lg_sl ([.long a, .long b])).length) Slot.unset).toArray = ls at hl ⊢
  have hl : lv_has ls 4 [(0, .long a), (2, .long b)] := hl
  refine lv_lload_n hx hb dM_mul_0 rfl (lv_at hl 0 rfl) ?_
  refine lv_lload_n hx hb dM_mul_1 rfl (lv_at hl 1 rfl) ?_
  refine lv_lmul hx hb dM_mul_2 ?_
  refine lv_bipush (v := nI 16) hx hb dM_mul_3 (by decide) ?_
  refine lv_lshr (v := (a * b) >>> ((nI 16).toInt64 &&& 63)) hx hb dM_mul_5 rfl ?_
  exact W.lret (v := (a * b) >>> ((nI 16).toInt64 &&& 63)) hx hb hr (fun t ht hW => ⟨_, rfl, rfl, ht⟩) (fun _ h => nomatch h) dM_mul_6

set_option maxHeartbeats 4000000 in
set_option maxRecDepth 100000 in
/-- the nearest within the bound -/
theorem kS_bound (l : Launch) (v : Int64) : Met l yS_bound (wc yS_bound cS_bound 2 (some .int)) ({ frames := 1, cells := 0, slots := 0, locals := 17 } : Room) (va_Pc [.long v] (fun _ => True)) (vp_Si (fun r => r = (jcl v).toInt32)) 0 0 (fun _ => False) := by
  refine Met.ofW (cc := cS_bound) (maxL := 2) (ret := (some .int)) (by decide +kernel) rfl ?_
  intro p e s m args below meth c s₁ B hml hv
  obtain ⟨rfl, -⟩ := hv
  have hx := B.exec
  have hb := B.bytes
  have hr := B.returns
  have hts : ∀ w9 ∈ ws_all, w9.before ([.long v] : List Value).toArray s = true := fun w9 h => atoms_spec (ws := (wc yS_bound cS_bound 2 (some .int))) B.pre w9 (List.mem_cons_of_mem _ h)
  have hown : s.vm.findClass RS = some m.cls := findClass_of_methodNamed B.named
  have hlocks := B.notSynchronized
  have hl := lv_entry ([.long v]) (n := 2) (Nat.le_of_ble_eq_true rfl)
  rw [lg_entry_eq]
  generalize (lg_sl ([.long v]) ++ List.replicate (2 - (lg_sl ([.long v])).length) Slot.unset).toArray = ls at hl ⊢
  have hl : lv_has ls 2 [(0, .long v)] := hl
  refine lv_ldc2 (own := RS) (index := 150) (v := (-16777216)) hx hb hown (hts _ w_80) dS_bound_0 ?_
  refine lv_ldc2 (own := RS) (index := 152) (v := 16777216) hx hb hown (hts _ w_81) dS_bound_3 ?_
  refine lv_lload_n hx hb dS_bound_6 rfl (lv_at hl 0 rfl) ?_
  refine va_mmin_long (own := RS) (index := 154) hx hb (hml.trans hl.1.symm) hown (hts _ w_82) (hts _ w_83) (hts _ w_3) (hts _ w_84) (by decide) (by decide) (by decide) (by decide) dS_bound_7 ?_
  refine va_mmax_long (own := RS) (index := 156) hx hb (hml.trans hl.1.symm) hown (hts _ w_85) (hts _ w_86) (hts _ w_3) (hts _ w_87) (by decide) (by decide) (by decide) (by decide) dS_bound_10 ?_
  refine lv_l2i (v := (jcl v).toInt32) hx hb dS_bound_13 rfl ?_
  exact W.iret (v := (jcl v).toInt32) hx hb hr (fun t ht hW => ⟨_, rfl, rfl, ht⟩) (fun _ h => nomatch h) dS_bound_14

set_option maxHeartbeats 4000000 in
set_option maxRecDepth 100000 in
/-- -w <= v <= w -/
theorem kS_isWithin (l : Launch) (v w : Int32) : Met l yS_isWithin (wc yS_isWithin cS_isWithin 2 (some .boolean)) ({ frames := 0, cells := 0, slots := 0, locals := 0 } : Room) (va_Pc [.int v, .int w] (fun _ => True)) (vp_Si (jb (jcan w v))) 0 0 (fun _ => False) := by
  refine Met.ofW (cc := cS_isWithin) (maxL := 2) (ret := (some .boolean)) (by decide +kernel) rfl ?_
  intro p e s m args below meth c s₁ B hml hv
  obtain ⟨rfl, -⟩ := hv
  have hx := B.exec
  have hb := B.bytes
  have hr := B.returns
  have hts : ∀ w9 ∈ ws_all, w9.before ([.int v, .int w] : List Value).toArray s = true := fun w9 h => atoms_spec (ws := (wc yS_isWithin cS_isWithin 2 (some .boolean))) B.pre w9 (List.mem_cons_of_mem _ h)
  have hown : s.vm.findClass RS = some m.cls := findClass_of_methodNamed B.named
  have hlocks := B.notSynchronized
  have hl := lv_entry ([.int v, .int w]) (n := 2) (Nat.le_of_ble_eq_true rfl)
  rw [lg_entry_eq]
  generalize (lg_sl ([.int v, .int w]) ++ List.replicate (2 - (lg_sl ([.int v, .int w])).length) Slot.unset).toArray = ls at hl ⊢
  have hl : lv_has ls 2 [(0, .int v), (1, .int w)] := hl
  refine lv_iload_n hx hb dS_isWithin_0 rfl (lv_at hl 0 rfl) ?_
  refine lv_iload_n hx hb dS_isWithin_1 rfl (lv_at hl 1 rfl) ?_
  refine lv_ineg hx hb dS_isWithin_2 ?_
  refine lv_icmp_lt (tgt := 15) hx hb dS_isWithin_3 (by decide) (fun c_3 => ?_) (fun c_3 => ?_)
  · skip
    refine lv_iconst (v := nI 0) hx hb dS_isWithin_15 (by decide) ?_
    exact W.zret (v := nI 0) (ty := .boolean) hx hb hr (by decide) (fun t ht hW => ⟨_, rfl, jb.zero (fun h9 => by simp only [jcan, Int32.lt_iff_toInt_lt, Int32.le_iff_toInt_le, nI, Int32.reduceOfNat, Int32.reduceToInt] at h9 c_3; omega), ht⟩) (fun _ h => nomatch h) dS_isWithin_16
  · skip
    refine lv_iload_n hx hb dS_isWithin_6 rfl (lv_at hl 0 rfl) ?_
    refine lv_iload_n hx hb dS_isWithin_7 rfl (lv_at hl 1 rfl) ?_
    refine lv_icmp_gt (tgt := 15) hx hb dS_isWithin_8 (by decide) (fun c_8 => ?_) (fun c_8 => ?_)
    · skip
      refine lv_iconst (v := nI 0) hx hb dS_isWithin_15 (by decide) ?_
      exact W.zret (v := nI 0) (ty := .boolean) hx hb hr (by decide) (fun t ht hW => ⟨_, rfl, jb.zero (fun h9 => by simp only [jcan, Int32.lt_iff_toInt_lt, Int32.le_iff_toInt_le, nI, Int32.reduceOfNat, Int32.reduceToInt] at h9 c_3 c_8; omega), ht⟩) (fun _ h => nomatch h) dS_isWithin_16
    · skip
      refine lv_iconst (v := nI 1) hx hb dS_isWithin_11 (by decide) ?_
      refine lv_goto (tgt := 16) hx hb dS_isWithin_12 (by decide) ?_
      exact W.zret (v := nI 1) (ty := .boolean) hx hb hr (by decide) (fun t ht hW => ⟨_, rfl, jb.one (by simp only [jcan, Int32.lt_iff_toInt_lt, Int32.le_iff_toInt_le, nI, Int32.reduceOfNat, Int32.reduceToInt] at c_3 c_8 ⊢; omega), ht⟩) (fun _ h => nomatch h) dS_isWithin_16

set_option maxHeartbeats 4000000 in
set_option maxRecDepth 100000 in
theorem kS_isParentBefore (l : Launch) (n q : Int32) : Met l yS_isParentBefore (wc yS_isParentBefore cS_isParentBefore 2 (some .boolean)) ({ frames := 0, cells := 0, slots := 0, locals := 0 } : Room) (va_Pc [.int n, .int q] (fun _ => True)) (vp_Si (jb ((-1) ≤ q ∧ q < n))) 0 0 (fun _ => False) := by
  refine Met.ofW (cc := cS_isParentBefore) (maxL := 2) (ret := (some .boolean)) (by decide +kernel) rfl ?_
  intro p e s m args below meth c s₁ B hml hv
  obtain ⟨rfl, -⟩ := hv
  have hx := B.exec
  have hb := B.bytes
  have hr := B.returns
  have hts : ∀ w9 ∈ ws_all, w9.before ([.int n, .int q] : List Value).toArray s = true := fun w9 h => atoms_spec (ws := (wc yS_isParentBefore cS_isParentBefore 2 (some .boolean))) B.pre w9 (List.mem_cons_of_mem _ h)
  have hown : s.vm.findClass RS = some m.cls := findClass_of_methodNamed B.named
  have hlocks := B.notSynchronized
  have hl := lv_entry ([.int n, .int q]) (n := 2) (Nat.le_of_ble_eq_true rfl)
  rw [lg_entry_eq]
  generalize (lg_sl ([.int n, .int q]) ++ List.replicate (2 - (lg_sl ([.int n, .int q])).length) Slot.unset).toArray = ls at hl ⊢
  have hl : lv_has ls 2 [(0, .int n), (1, .int q)] := hl
  refine lv_iload_n hx hb dS_isParentBefore_0 rfl (lv_at hl 1 rfl) ?_
  refine lv_iconst (v := (-1)) hx hb dS_isParentBefore_1 (by decide) ?_
  refine lv_icmp_lt (tgt := 14) hx hb dS_isParentBefore_2 (by decide) (fun c_2 => ?_) (fun c_2 => ?_)
  · skip
    refine lv_iconst (v := nI 0) hx hb dS_isParentBefore_14 (by decide) ?_
    exact W.zret (v := nI 0) (ty := .boolean) hx hb hr (by decide) (fun t ht hW => ⟨_, rfl, jb.zero (fun h9 => by simp only [Int32.lt_iff_toInt_lt, Int32.le_iff_toInt_le, nI, Int32.reduceOfNat, Int32.reduceToInt] at h9 c_2; omega), ht⟩) (fun _ h => nomatch h) dS_isParentBefore_15
  · skip
    refine lv_iload_n hx hb dS_isParentBefore_5 rfl (lv_at hl 1 rfl) ?_
    refine lv_iload_n hx hb dS_isParentBefore_6 rfl (lv_at hl 0 rfl) ?_
    refine lv_icmp_ge (tgt := 14) hx hb dS_isParentBefore_7 (by decide) (fun c_7 => ?_) (fun c_7 => ?_)
    · skip
      refine lv_iconst (v := nI 0) hx hb dS_isParentBefore_14 (by decide) ?_
      exact W.zret (v := nI 0) (ty := .boolean) hx hb hr (by decide) (fun t ht hW => ⟨_, rfl, jb.zero (fun h9 => by simp only [Int32.lt_iff_toInt_lt, Int32.le_iff_toInt_le, nI, Int32.reduceOfNat, Int32.reduceToInt] at h9 c_2 c_7; omega), ht⟩) (fun _ h => nomatch h) dS_isParentBefore_15
    · skip
      refine lv_iconst (v := nI 1) hx hb dS_isParentBefore_10 (by decide) ?_
      refine lv_goto (tgt := 15) hx hb dS_isParentBefore_11 (by decide) ?_
      exact W.zret (v := nI 1) (ty := .boolean) hx hb hr (by decide) (fun t ht hW => ⟨_, rfl, jb.one (by simp only [Int32.lt_iff_toInt_lt, Int32.le_iff_toInt_le, nI, Int32.reduceOfNat, Int32.reduceToInt] at c_2 c_7 ⊢; omega), ht⟩) (fun _ h => nomatch h) dS_isParentBefore_15

set_option maxHeartbeats 4000000 in
set_option maxRecDepth 100000 in
theorem kS_isCell (l : Launch) (i j : Int32) : Met l yS_isCell (wc yS_isCell cS_isCell 2 (some .boolean)) ({ frames := 0, cells := 0, slots := 0, locals := 0 } : Room) (va_Pc [.int i, .int j] (fun _ => True)) (vp_Si (jb ((0 ≤ i ∧ i < 3) ∧ (0 ≤ j ∧ j < 4)))) 0 0 (fun _ => False) := by
  refine Met.ofW (cc := cS_isCell) (maxL := 2) (ret := (some .boolean)) (by decide +kernel) rfl ?_
  intro p e s m args below meth c s₁ B hml hv
  obtain ⟨rfl, -⟩ := hv
  have hx := B.exec
  have hb := B.bytes
  have hr := B.returns
  have hts : ∀ w9 ∈ ws_all, w9.before ([.int i, .int j] : List Value).toArray s = true := fun w9 h => atoms_spec (ws := (wc yS_isCell cS_isCell 2 (some .boolean))) B.pre w9 (List.mem_cons_of_mem _ h)
  have hown : s.vm.findClass RS = some m.cls := findClass_of_methodNamed B.named
  have hlocks := B.notSynchronized
  have hl := lv_entry ([.int i, .int j]) (n := 2) (Nat.le_of_ble_eq_true rfl)
  rw [lg_entry_eq]
  generalize (lg_sl ([.int i, .int j]) ++ List.replicate (2 - (lg_sl ([.int i, .int j])).length) Slot.unset).toArray = ls at hl ⊢
  have hl : lv_has ls 2 [(0, .int i), (1, .int j)] := hl
  refine lv_iload_n hx hb dS_isCell_0 rfl (lv_at hl 0 rfl) ?_
  refine lv_if_lt (tgt := 22) hx hb dS_isCell_1 (by decide) (fun c_1 => ?_) (fun c_1 => ?_)
  · skip
    refine lv_iconst (v := nI 0) hx hb dS_isCell_22 (by decide) ?_
    exact W.zret (v := nI 0) (ty := .boolean) hx hb hr (by decide) (fun t ht hW => ⟨_, rfl, jb.zero (fun h9 => by simp only [Int32.lt_iff_toInt_lt, Int32.le_iff_toInt_le, nI, Int32.reduceOfNat, Int32.reduceToInt] at h9 c_1; omega), ht⟩) (fun _ h => nomatch h) dS_isCell_23
  · skip
    refine lv_iload_n hx hb dS_isCell_4 rfl (lv_at hl 0 rfl) ?_
    refine lv_iconst (v := nI 3) hx hb dS_isCell_5 (by decide) ?_
    refine lv_icmp_ge (tgt := 22) hx hb dS_isCell_6 (by decide) (fun c_6 => ?_) (fun c_6 => ?_)
    · skip
      refine lv_iconst (v := nI 0) hx hb dS_isCell_22 (by decide) ?_
      exact W.zret (v := nI 0) (ty := .boolean) hx hb hr (by decide) (fun t ht hW => ⟨_, rfl, jb.zero (fun h9 => by simp only [Int32.lt_iff_toInt_lt, Int32.le_iff_toInt_le, nI, Int32.reduceOfNat, Int32.reduceToInt] at h9 c_1 c_6; omega), ht⟩) (fun _ h => nomatch h) dS_isCell_23
    · skip
      refine lv_iload_n hx hb dS_isCell_9 rfl (lv_at hl 1 rfl) ?_
      refine lv_if_lt (tgt := 22) hx hb dS_isCell_10 (by decide) (fun c_10 => ?_) (fun c_10 => ?_)
      · skip
        refine lv_iconst (v := nI 0) hx hb dS_isCell_22 (by decide) ?_
        exact W.zret (v := nI 0) (ty := .boolean) hx hb hr (by decide) (fun t ht hW => ⟨_, rfl, jb.zero (fun h9 => by simp only [Int32.lt_iff_toInt_lt, Int32.le_iff_toInt_le, nI, Int32.reduceOfNat, Int32.reduceToInt] at h9 c_1 c_6 c_10; omega), ht⟩) (fun _ h => nomatch h) dS_isCell_23
      · skip
        refine lv_iload_n hx hb dS_isCell_13 rfl (lv_at hl 1 rfl) ?_
        refine lv_iconst (v := nI 4) hx hb dS_isCell_14 (by decide) ?_
        refine lv_icmp_ge (tgt := 22) hx hb dS_isCell_15 (by decide) (fun c_15 => ?_) (fun c_15 => ?_)
        · skip
          refine lv_iconst (v := nI 0) hx hb dS_isCell_22 (by decide) ?_
          exact W.zret (v := nI 0) (ty := .boolean) hx hb hr (by decide) (fun t ht hW => ⟨_, rfl, jb.zero (fun h9 => by simp only [Int32.lt_iff_toInt_lt, Int32.le_iff_toInt_le, nI, Int32.reduceOfNat, Int32.reduceToInt] at h9 c_1 c_6 c_10 c_15; omega), ht⟩) (fun _ h => nomatch h) dS_isCell_23
        · skip
          refine lv_iconst (v := nI 1) hx hb dS_isCell_18 (by decide) ?_
          refine lv_goto (tgt := 23) hx hb dS_isCell_19 (by decide) ?_
          exact W.zret (v := nI 1) (ty := .boolean) hx hb hr (by decide) (fun t ht hW => ⟨_, rfl, jb.one (by simp only [Int32.lt_iff_toInt_lt, Int32.le_iff_toInt_le, nI, Int32.reduceOfNat, Int32.reduceToInt] at c_1 c_6 c_10 c_15 ⊢; omega), ht⟩) (fun _ h => nomatch h) dS_isCell_23

set_option maxHeartbeats 4000000 in
set_option maxRecDepth 100000 in
/-- a node can have these numbers -/
theorem kS_canBe (l : Launch) (q x y z : Int32) : Met l yS_canBe (wc yS_canBe cS_canBe 5 (some .boolean)) ({ frames := 1, cells := 0, slots := 0, locals := 21 } : Room) (va_Pc [.int q, .int x, .int y, .int z] (fun _ => True)) (vp_Si (jb (jcan (jw q) x ∧ jcan (jw q) y ∧ jcan (jw q) z))) 0 0 (fun _ => False) := by
  refine Met.ofW (cc := cS_canBe) (maxL := 5) (ret := (some .boolean)) (by decide +kernel) rfl ?_
  intro p e s m args below meth c s₁ B hml hv
  obtain ⟨rfl, -⟩ := hv
  have hx := B.exec
  have hb := B.bytes
  have hr := B.returns
  have hts : ∀ w9 ∈ ws_all, w9.before ([.int q, .int x, .int y, .int z] : List Value).toArray s = true := fun w9 h => atoms_spec (ws := (wc yS_canBe cS_canBe 5 (some .boolean))) B.pre w9 (List.mem_cons_of_mem _ h)
  have hown : s.vm.findClass RS = some m.cls := findClass_of_methodNamed B.named
  have hlocks := B.notSynchronized
  have hl := lv_entry ([.int q, .int x, .int y, .int z]) (n := 5) (Nat.le_of_ble_eq_true rfl)
  rw [lg_entry_eq]
  generalize (lg_sl ([.int q, .int x, .int y, .int z]) ++ List.replicate (5 - (lg_sl ([.int q, .int x, .int y, .int z])).length) Slot.unset).toArray = ls at hl ⊢
  have hl : lv_has ls 5 [(0, .int q), (1, .int x), (2, .int y), (3, .int z)] := hl
  refine lv_iload_n hx hb dS_canBe_0 rfl (lv_at hl 0 rfl) ?_
  refine lv_if_ne (tgt := 9) hx hb dS_canBe_1 (by decide) (fun c_1 => ?_) (fun c_1 => ?_)
  · skip
    refine lv_iload_n hx hb dS_canBe_9 rfl (lv_at hl 0 rfl) ?_
    refine lv_iconst (v := nI 1) hx hb dS_canBe_10 (by decide) ?_
    refine lv_icmp_ne (tgt := 19) hx hb dS_canBe_11 (by decide) (fun c_11 => ?_) (fun c_11 => ?_)
    · skip
      refine lv_ldc (own := RS) (index := 114) (v := 1048576) hx hb hown (hts _ w_162) dS_canBe_19 ?_
      refine ln_asi (jw q) (by unfold jw; rw [if_neg c_1]) ?_
      refine lv_istore (lv' := [(4, .int (jw q)), (0, .int q), (1, .int x), (2, .int y), (3, .int z)]) hx hb dS_canBe_21 hl (by decide) rfl (fun ls hl => ?_)
      refine lv_iload_n hx hb dS_canBe_23 rfl (lv_at hl 2 rfl) ?_
      refine lv_iload hx hb dS_canBe_24 (lv_at hl 0 rfl) ?_
      refine vp_callSi (va_Run.run (bc_runS (own := RS) (As := [.int x, .int (jw q)]) (rest := []) hx hb (hml.trans hl.1.symm) hown hts (kS_isWithin l x (jw q)) w_165 w_163 w_164 w_1 hd_S_isWithin rfl ⟨rfl, rfl⟩ ⟨Nat.le_of_ble_eq_true rfl, Nat.le_of_ble_eq_true rfl⟩ (fun _ _ _ _ _ => trivial) (fun _ _ _ => trivial) rfl (Nat.le_of_ble_eq_true rfl) dS_canBe_26 ⟨Nat.le_of_ble_eq_true rfl, Nat.le_of_ble_eq_true rfl⟩)) (fun r_26 hr_26 => ?_)
      refine lv_if_eq (tgt := 54) hx hb dS_canBe_29 (by decide) (fun c_29 => ?_) (fun c_29 => ?_)
      · skip
        refine lv_iconst (v := nI 0) hx hb dS_canBe_54 (by decide) ?_
        exact W.zret (v := nI 0) (ty := .boolean) hx hb hr (by decide) (fun t ht hW => ⟨_, rfl, jb.zero (fun h9 => hr_26.f c_29 h9.1), ht⟩) (fun _ h => nomatch h) dS_canBe_55
      · skip
        refine lv_iload_n hx hb dS_canBe_32 rfl (lv_at hl 3 rfl) ?_
        refine lv_iload hx hb dS_canBe_33 (lv_at hl 0 rfl) ?_
        refine vp_callSi (va_Run.run (bc_runS (own := RS) (As := [.int y, .int (jw q)]) (rest := []) hx hb (hml.trans hl.1.symm) hown hts (kS_isWithin l y (jw q)) w_165 w_163 w_164 w_1 hd_S_isWithin rfl ⟨rfl, rfl⟩ ⟨Nat.le_of_ble_eq_true rfl, Nat.le_of_ble_eq_true rfl⟩ (fun _ _ _ _ _ => trivial) (fun _ _ _ => trivial) rfl (Nat.le_of_ble_eq_true rfl) dS_canBe_35 ⟨Nat.le_of_ble_eq_true rfl, Nat.le_of_ble_eq_true rfl⟩)) (fun r_35 hr_35 => ?_)
        refine lv_if_eq (tgt := 54) hx hb dS_canBe_38 (by decide) (fun c_38 => ?_) (fun c_38 => ?_)
        · skip
          refine lv_iconst (v := nI 0) hx hb dS_canBe_54 (by decide) ?_
          exact W.zret (v := nI 0) (ty := .boolean) hx hb hr (by decide) (fun t ht hW => ⟨_, rfl, jb.zero (fun h9 => hr_35.f c_38 h9.2.1), ht⟩) (fun _ h => nomatch h) dS_canBe_55
        · skip
          refine lv_iload_n hx hb dS_canBe_41 rfl (lv_at hl 4 rfl) ?_
          refine lv_iload hx hb dS_canBe_42 (lv_at hl 0 rfl) ?_
          refine vp_callSi (va_Run.run (bc_runS (own := RS) (As := [.int z, .int (jw q)]) (rest := []) hx hb (hml.trans hl.1.symm) hown hts (kS_isWithin l z (jw q)) w_165 w_163 w_164 w_1 hd_S_isWithin rfl ⟨rfl, rfl⟩ ⟨Nat.le_of_ble_eq_true rfl, Nat.le_of_ble_eq_true rfl⟩ (fun _ _ _ _ _ => trivial) (fun _ _ _ => trivial) rfl (Nat.le_of_ble_eq_true rfl) dS_canBe_44 ⟨Nat.le_of_ble_eq_true rfl, Nat.le_of_ble_eq_true rfl⟩)) (fun r_44 hr_44 => ?_)
          refine lv_if_eq (tgt := 54) hx hb dS_canBe_47 (by decide) (fun c_47 => ?_) (fun c_47 => ?_)
          · skip
            refine lv_iconst (v := nI 0) hx hb dS_canBe_54 (by decide) ?_
            exact W.zret (v := nI 0) (ty := .boolean) hx hb hr (by decide) (fun t ht hW => ⟨_, rfl, jb.zero (fun h9 => hr_44.f c_47 h9.2.2), ht⟩) (fun _ h => nomatch h) dS_canBe_55
          · skip
            refine lv_iconst (v := nI 1) hx hb dS_canBe_50 (by decide) ?_
            refine lv_goto (tgt := 55) hx hb dS_canBe_51 (by decide) ?_
            exact W.zret (v := nI 1) (ty := .boolean) hx hb hr (by decide) (fun t ht hW => ⟨_, rfl, jb.one ⟨hr_26.t c_29, hr_35.t c_38, hr_44.t c_47⟩, ht⟩) (fun _ h => nomatch h) dS_canBe_55
    · skip
      refine lv_ldc (own := RS) (index := 114) (v := 1048576) hx hb hown (hts _ w_162) dS_canBe_14 ?_
      refine lv_goto (tgt := 21) hx hb dS_canBe_16 (by decide) ?_
      refine ln_asi (jw q) (by unfold jw; rw [if_neg c_1]) ?_
      refine lv_istore (lv' := [(4, .int (jw q)), (0, .int q), (1, .int x), (2, .int y), (3, .int z)]) hx hb dS_canBe_21 hl (by decide) rfl (fun ls hl => ?_)
      refine lv_iload_n hx hb dS_canBe_23 rfl (lv_at hl 2 rfl) ?_
      refine lv_iload hx hb dS_canBe_24 (lv_at hl 0 rfl) ?_
      refine vp_callSi (va_Run.run (bc_runS (own := RS) (As := [.int x, .int (jw q)]) (rest := []) hx hb (hml.trans hl.1.symm) hown hts (kS_isWithin l x (jw q)) w_165 w_163 w_164 w_1 hd_S_isWithin rfl ⟨rfl, rfl⟩ ⟨Nat.le_of_ble_eq_true rfl, Nat.le_of_ble_eq_true rfl⟩ (fun _ _ _ _ _ => trivial) (fun _ _ _ => trivial) rfl (Nat.le_of_ble_eq_true rfl) dS_canBe_26 ⟨Nat.le_of_ble_eq_true rfl, Nat.le_of_ble_eq_true rfl⟩)) (fun r_26 hr_26 => ?_)
      refine lv_if_eq (tgt := 54) hx hb dS_canBe_29 (by decide) (fun c_29 => ?_) (fun c_29 => ?_)
      · skip
        refine lv_iconst (v := nI 0) hx hb dS_canBe_54 (by decide) ?_
        exact W.zret (v := nI 0) (ty := .boolean) hx hb hr (by decide) (fun t ht hW => ⟨_, rfl, jb.zero (fun h9 => hr_26.f c_29 h9.1), ht⟩) (fun _ h => nomatch h) dS_canBe_55
      · skip
        refine lv_iload_n hx hb dS_canBe_32 rfl (lv_at hl 3 rfl) ?_
        refine lv_iload hx hb dS_canBe_33 (lv_at hl 0 rfl) ?_
        refine vp_callSi (va_Run.run (bc_runS (own := RS) (As := [.int y, .int (jw q)]) (rest := []) hx hb (hml.trans hl.1.symm) hown hts (kS_isWithin l y (jw q)) w_165 w_163 w_164 w_1 hd_S_isWithin rfl ⟨rfl, rfl⟩ ⟨Nat.le_of_ble_eq_true rfl, Nat.le_of_ble_eq_true rfl⟩ (fun _ _ _ _ _ => trivial) (fun _ _ _ => trivial) rfl (Nat.le_of_ble_eq_true rfl) dS_canBe_35 ⟨Nat.le_of_ble_eq_true rfl, Nat.le_of_ble_eq_true rfl⟩)) (fun r_35 hr_35 => ?_)
        refine lv_if_eq (tgt := 54) hx hb dS_canBe_38 (by decide) (fun c_38 => ?_) (fun c_38 => ?_)
        · skip
          refine lv_iconst (v := nI 0) hx hb dS_canBe_54 (by decide) ?_
          exact W.zret (v := nI 0) (ty := .boolean) hx hb hr (by decide) (fun t ht hW => ⟨_, rfl, jb.zero (fun h9 => hr_35.f c_38 h9.2.1), ht⟩) (fun _ h => nomatch h) dS_canBe_55
        · skip
          refine lv_iload_n hx hb dS_canBe_41 rfl (lv_at hl 4 rfl) ?_
          refine lv_iload hx hb dS_canBe_42 (lv_at hl 0 rfl) ?_
          refine vp_callSi (va_Run.run (bc_runS (own := RS) (As := [.int z, .int (jw q)]) (rest := []) hx hb (hml.trans hl.1.symm) hown hts (kS_isWithin l z (jw q)) w_165 w_163 w_164 w_1 hd_S_isWithin rfl ⟨rfl, rfl⟩ ⟨Nat.le_of_ble_eq_true rfl, Nat.le_of_ble_eq_true rfl⟩ (fun _ _ _ _ _ => trivial) (fun _ _ _ => trivial) rfl (Nat.le_of_ble_eq_true rfl) dS_canBe_44 ⟨Nat.le_of_ble_eq_true rfl, Nat.le_of_ble_eq_true rfl⟩)) (fun r_44 hr_44 => ?_)
          refine lv_if_eq (tgt := 54) hx hb dS_canBe_47 (by decide) (fun c_47 => ?_) (fun c_47 => ?_)
          · skip
            refine lv_iconst (v := nI 0) hx hb dS_canBe_54 (by decide) ?_
            exact W.zret (v := nI 0) (ty := .boolean) hx hb hr (by decide) (fun t ht hW => ⟨_, rfl, jb.zero (fun h9 => hr_44.f c_47 h9.2.2), ht⟩) (fun _ h => nomatch h) dS_canBe_55
          · skip
            refine lv_iconst (v := nI 1) hx hb dS_canBe_50 (by decide) ?_
            refine lv_goto (tgt := 55) hx hb dS_canBe_51 (by decide) ?_
            exact W.zret (v := nI 1) (ty := .boolean) hx hb hr (by decide) (fun t ht hW => ⟨_, rfl, jb.one ⟨hr_26.t c_29, hr_35.t c_38, hr_44.t c_47⟩, ht⟩) (fun _ h => nomatch h) dS_canBe_55
  · skip
    refine lv_ldc (own := RS) (index := 113) (v := 4194304) hx hb hown (hts _ w_161) dS_canBe_4 ?_
    refine lv_goto (tgt := 21) hx hb dS_canBe_6 (by decide) ?_
    refine ln_asi (jw q) (by unfold jw; rw [if_pos c_1]) ?_
    refine lv_istore (lv' := [(4, .int (jw q)), (0, .int q), (1, .int x), (2, .int y), (3, .int z)]) hx hb dS_canBe_21 hl (by decide) rfl (fun ls hl => ?_)
    refine lv_iload_n hx hb dS_canBe_23 rfl (lv_at hl 2 rfl) ?_
    refine lv_iload hx hb dS_canBe_24 (lv_at hl 0 rfl) ?_
    refine vp_callSi (va_Run.run (bc_runS (own := RS) (As := [.int x, .int (jw q)]) (rest := []) hx hb (hml.trans hl.1.symm) hown hts (kS_isWithin l x (jw q)) w_165 w_163 w_164 w_1 hd_S_isWithin rfl ⟨rfl, rfl⟩ ⟨Nat.le_of_ble_eq_true rfl, Nat.le_of_ble_eq_true rfl⟩ (fun _ _ _ _ _ => trivial) (fun _ _ _ => trivial) rfl (Nat.le_of_ble_eq_true rfl) dS_canBe_26 ⟨Nat.le_of_ble_eq_true rfl, Nat.le_of_ble_eq_true rfl⟩)) (fun r_26 hr_26 => ?_)
    refine lv_if_eq (tgt := 54) hx hb dS_canBe_29 (by decide) (fun c_29 => ?_) (fun c_29 => ?_)
    · skip
      refine lv_iconst (v := nI 0) hx hb dS_canBe_54 (by decide) ?_
      exact W.zret (v := nI 0) (ty := .boolean) hx hb hr (by decide) (fun t ht hW => ⟨_, rfl, jb.zero (fun h9 => hr_26.f c_29 h9.1), ht⟩) (fun _ h => nomatch h) dS_canBe_55
    · skip
      refine lv_iload_n hx hb dS_canBe_32 rfl (lv_at hl 3 rfl) ?_
      refine lv_iload hx hb dS_canBe_33 (lv_at hl 0 rfl) ?_
      refine vp_callSi (va_Run.run (bc_runS (own := RS) (As := [.int y, .int (jw q)]) (rest := []) hx hb (hml.trans hl.1.symm) hown hts (kS_isWithin l y (jw q)) w_165 w_163 w_164 w_1 hd_S_isWithin rfl ⟨rfl, rfl⟩ ⟨Nat.le_of_ble_eq_true rfl, Nat.le_of_ble_eq_true rfl⟩ (fun _ _ _ _ _ => trivial) (fun _ _ _ => trivial) rfl (Nat.le_of_ble_eq_true rfl) dS_canBe_35 ⟨Nat.le_of_ble_eq_true rfl, Nat.le_of_ble_eq_true rfl⟩)) (fun r_35 hr_35 => ?_)
      refine lv_if_eq (tgt := 54) hx hb dS_canBe_38 (by decide) (fun c_38 => ?_) (fun c_38 => ?_)
      · skip
        refine lv_iconst (v := nI 0) hx hb dS_canBe_54 (by decide) ?_
        exact W.zret (v := nI 0) (ty := .boolean) hx hb hr (by decide) (fun t ht hW => ⟨_, rfl, jb.zero (fun h9 => hr_35.f c_38 h9.2.1), ht⟩) (fun _ h => nomatch h) dS_canBe_55
      · skip
        refine lv_iload_n hx hb dS_canBe_41 rfl (lv_at hl 4 rfl) ?_
        refine lv_iload hx hb dS_canBe_42 (lv_at hl 0 rfl) ?_
        refine vp_callSi (va_Run.run (bc_runS (own := RS) (As := [.int z, .int (jw q)]) (rest := []) hx hb (hml.trans hl.1.symm) hown hts (kS_isWithin l z (jw q)) w_165 w_163 w_164 w_1 hd_S_isWithin rfl ⟨rfl, rfl⟩ ⟨Nat.le_of_ble_eq_true rfl, Nat.le_of_ble_eq_true rfl⟩ (fun _ _ _ _ _ => trivial) (fun _ _ _ => trivial) rfl (Nat.le_of_ble_eq_true rfl) dS_canBe_44 ⟨Nat.le_of_ble_eq_true rfl, Nat.le_of_ble_eq_true rfl⟩)) (fun r_44 hr_44 => ?_)
        refine lv_if_eq (tgt := 54) hx hb dS_canBe_47 (by decide) (fun c_47 => ?_) (fun c_47 => ?_)
        · skip
          refine lv_iconst (v := nI 0) hx hb dS_canBe_54 (by decide) ?_
          exact W.zret (v := nI 0) (ty := .boolean) hx hb hr (by decide) (fun t ht hW => ⟨_, rfl, jb.zero (fun h9 => hr_44.f c_47 h9.2.2), ht⟩) (fun _ h => nomatch h) dS_canBe_55
        · skip
          refine lv_iconst (v := nI 1) hx hb dS_canBe_50 (by decide) ?_
          refine lv_goto (tgt := 55) hx hb dS_canBe_51 (by decide) ?_
          exact W.zret (v := nI 1) (ty := .boolean) hx hb hr (by decide) (fun t ht hW => ⟨_, rfl, jb.one ⟨hr_26.t c_29, hr_35.t c_38, hr_44.t c_47⟩, ht⟩) (fun _ h => nomatch h) dS_canBe_55

set_option maxHeartbeats 4000000 in
set_option maxRecDepth 100000 in
theorem kS_isNode (l : Launch) (D : va_G) (cs : Nat → ClassId) (ad : Nat → Nat) (hI : bw_I ad 162) (M : Nat → Nat → Int32) (sz : Nat) (x : Int32) : Met l yS_isNode (wc yS_isNode cS_isNode 2 (some .boolean)) ({ frames := 0, cells := 0, slots := 0, locals := 0 } : Room) (va_Pc [.ref (ad 0), .int x] (sP D cs ad M sz)) (vp_Si (jb (0 ≤ x ∧ x < M 0 0))) 0 0 (fun _ => False) := by
  refine Met.ofW (cc := cS_isNode) (maxL := 2) (ret := (some .boolean)) (by decide +kernel) rfl ?_
  intro p e s m args below meth c s₁ B hml hv
  obtain ⟨rfl, hsz, hP, hE⟩ := hv
  subst hsz
  have hx := B.exec
  have hb := B.bytes
  have hr := B.returns
  have hts : ∀ w9 ∈ ws_all, w9.before ([.ref (ad 0), .int x] : List Value).toArray s = true := fun w9 h => atoms_spec (ws := (wc yS_isNode cS_isNode 2 (some .boolean))) B.pre w9 (List.mem_cons_of_mem _ h)
  have hown : s.vm.findClass RS = some m.cls := findClass_of_methodNamed B.named
  have hlocks := B.notSynchronized
  have hl := lv_entry ([.ref (ad 0), .int x]) (n := 2) (Nat.le_of_ble_eq_true rfl)
  rw [lg_entry_eq]
  generalize (lg_sl ([.ref (ad 0), .int x]) ++ List.replicate (2 - (lg_sl ([.ref (ad 0), .int x])).length) Slot.unset).toArray = ls at hl ⊢
  have hl : lv_has ls 2 [(0, .ref (ad 0)), (1, .int x)] := hl
  refine lv_iload_n hx hb dS_isNode_0 rfl (lv_at hl 1 rfl) ?_
  refine lv_if_lt (tgt := 16) hx hb dS_isNode_1 (by decide) (fun c_1 => ?_) (fun c_1 => ?_)
  · skip
    refine lv_iconst (v := nI 0) hx hb dS_isNode_16 (by decide) ?_
    exact W.zret (v := nI 0) (ty := .boolean) hx hb hr (by decide) (fun t ht hW => ⟨_, rfl, jb.zero (fun h9 => by simp only [Int32.lt_iff_toInt_lt, Int32.le_iff_toInt_le, nI, Int32.reduceOfNat, Int32.reduceToInt] at h9 c_1; omega), ht⟩) (fun _ h => nomatch h) dS_isNode_17
  · skip
    refine lv_iload_n hx hb dS_isNode_4 rfl (lv_at hl 1 rfl) ?_
    refine lv_aload_n hx hb dS_isNode_5 rfl (lv_at hl 0 rfl) ?_
    refine bw_get (own := RS) (ci := 1) (C := RS) (T := TS) (N := 14) (v := .int (M 0 0)) hx hb hts inS hown hE hP 0 (by decide) rfl rfl 0 (by decide) w_88 rfl rfl dS_isNode_6 ?_
    refine lv_icmp_ge (tgt := 16) hx hb dS_isNode_9 (by decide) (fun c_9 => ?_) (fun c_9 => ?_)
    · skip
      refine lv_iconst (v := nI 0) hx hb dS_isNode_16 (by decide) ?_
      exact W.zret (v := nI 0) (ty := .boolean) hx hb hr (by decide) (fun t ht hW => ⟨_, rfl, jb.zero (fun h9 => by simp only [Int32.lt_iff_toInt_lt, Int32.le_iff_toInt_le, nI, Int32.reduceOfNat, Int32.reduceToInt] at h9 c_1 c_9; omega), ht⟩) (fun _ h => nomatch h) dS_isNode_17
    · skip
      refine lv_iconst (v := nI 1) hx hb dS_isNode_12 (by decide) ?_
      refine lv_goto (tgt := 17) hx hb dS_isNode_13 (by decide) ?_
      exact W.zret (v := nI 1) (ty := .boolean) hx hb hr (by decide) (fun t ht hW => ⟨_, rfl, jb.one (by simp only [Int32.lt_iff_toInt_lt, Int32.le_iff_toInt_le, nI, Int32.reduceOfNat, Int32.reduceToInt] at c_1 c_9 ⊢; omega), ht⟩) (fun _ h => nomatch h) dS_isNode_17

set_option maxHeartbeats 4000000 in
set_option maxRecDepth 100000 in
theorem kM_isNode (l : Launch) (D : va_G) (cs : Nat → ClassId) (ad : Nat → Nat) (hI : bw_I ad 13) (M : Nat → mRow) (sz : Nat) (x : Int32) : Met l yM_isNode (wc yM_isNode cM_isNode 2 (some .boolean)) ({ frames := 0, cells := 0, slots := 0, locals := 0 } : Room) (va_Pc [.ref (ad 0), .int x] (mP D cs ad M sz)) (vp_Si (jb (0 ≤ x ∧ x < (M 0).1 1))) 0 0 (fun _ => False) := by
  refine Met.ofW (cc := cM_isNode) (maxL := 2) (ret := (some .boolean)) (by decide +kernel) rfl ?_
  intro p e s m args below meth c s₁ B hml hv
  obtain ⟨rfl, hsz, hP, hE⟩ := hv
  subst hsz
  have hx := B.exec
  have hb := B.bytes
  have hr := B.returns
  have hts : ∀ w9 ∈ ws_all, w9.before ([.ref (ad 0), .int x] : List Value).toArray s = true := fun w9 h => atoms_spec (ws := (wc yM_isNode cM_isNode 2 (some .boolean))) B.pre w9 (List.mem_cons_of_mem _ h)
  have hown : s.vm.findClass RM = some m.cls := findClass_of_methodNamed B.named
  have hlocks := B.notSynchronized
  have hl := lv_entry ([.ref (ad 0), .int x]) (n := 2) (Nat.le_of_ble_eq_true rfl)
  rw [lg_entry_eq]
  generalize (lg_sl ([.ref (ad 0), .int x]) ++ List.replicate (2 - (lg_sl ([.ref (ad 0), .int x])).length) Slot.unset).toArray = ls at hl ⊢
  have hl : lv_has ls 2 [(0, .ref (ad 0)), (1, .int x)] := hl
  refine lv_iload_n hx hb dM_isNode_0 rfl (lv_at hl 1 rfl) ?_
  refine lv_if_lt (tgt := 16) hx hb dM_isNode_1 (by decide) (fun c_1 => ?_) (fun c_1 => ?_)
  · skip
    refine lv_iconst (v := nI 0) hx hb dM_isNode_16 (by decide) ?_
    exact W.zret (v := nI 0) (ty := .boolean) hx hb hr (by decide) (fun t ht hW => ⟨_, rfl, jb.zero (fun h9 => by simp only [Int32.lt_iff_toInt_lt, Int32.le_iff_toInt_le, nI, Int32.reduceOfNat, Int32.reduceToInt] at h9 c_1; omega), ht⟩) (fun _ h => nomatch h) dM_isNode_17
  · skip
    refine lv_iload_n hx hb dM_isNode_4 rfl (lv_at hl 1 rfl) ?_
    refine lv_aload_n hx hb dM_isNode_5 rfl (lv_at hl 0 rfl) ?_
    refine bw_get (own := RM) (ci := 2) (C := RM) (T := TM) (N := 14) (v := .int ((M 0).1 1)) hx hb hts inM hown hE hP 0 (by decide) rfl rfl 1 (by decide) w_317 rfl rfl dM_isNode_6 ?_
    refine lv_icmp_ge (tgt := 16) hx hb dM_isNode_9 (by decide) (fun c_9 => ?_) (fun c_9 => ?_)
    · skip
      refine lv_iconst (v := nI 0) hx hb dM_isNode_16 (by decide) ?_
      exact W.zret (v := nI 0) (ty := .boolean) hx hb hr (by decide) (fun t ht hW => ⟨_, rfl, jb.zero (fun h9 => by simp only [Int32.lt_iff_toInt_lt, Int32.le_iff_toInt_le, nI, Int32.reduceOfNat, Int32.reduceToInt] at h9 c_1 c_9; omega), ht⟩) (fun _ h => nomatch h) dM_isNode_17
    · skip
      refine lv_iconst (v := nI 1) hx hb dM_isNode_12 (by decide) ?_
      refine lv_goto (tgt := 17) hx hb dM_isNode_13 (by decide) ?_
      exact W.zret (v := nI 1) (ty := .boolean) hx hb hr (by decide) (fun t ht hW => ⟨_, rfl, jb.one (by simp only [Int32.lt_iff_toInt_lt, Int32.le_iff_toInt_le, nI, Int32.reduceOfNat, Int32.reduceToInt] at c_1 c_9 ⊢; omega), ht⟩) (fun _ h => nomatch h) dM_isNode_17

set_option maxHeartbeats 4000000 in
set_option maxRecDepth 100000 in
theorem kJ_floorMod (l : Launch) (x y : Int32) (hy : ¬ y = 0) : Met l yJ_floorMod (wc yJ_floorMod cJ_floorMod 3 (some .int)) ({ frames := 0, cells := 0, slots := 0, locals := 0 } : Room) (va_Pc [.int x, .int y] (fun _ => True)) (vp_Si (fun r => r = jfm x y)) 0 0 (fun _ => False) := by
  refine va_MetF (cc := cJ_floorMod) (maxL := 3) (ret := (some .int)) (by decide +kernel) rfl ?_
  intro p e s m args below meth c s₁ B hml hv
  obtain ⟨rfl, -⟩ := hv
  have hx := B.exec
  have hb := B.bytes
  have hr := B.returns
  have hts : ∀ w9 ∈ ws_all, w9.before ([.int x, .int y] : List Value).toArray s = true := fun w9 h => atoms_spec (ws := (wc yJ_floorMod cJ_floorMod 3 (some .int))) B.pre w9 (List.mem_cons_of_mem _ h)
  have hown : s.vm.findClass RJ = some m.cls := findClass_of_methodNamed B.named
  have hlocks := B.notSynchronized
  have hl := lv_entry ([.int x, .int y]) (n := 3) (Nat.le_of_ble_eq_true rfl)
  rw [lg_entry_eq]
  generalize (lg_sl ([.int x, .int y]) ++ List.replicate (3 - (lg_sl ([.int x, .int y])).length) Slot.unset).toArray = ls at hl ⊢
  have hl : lv_has ls 3 [(0, .int x), (1, .int y)] := hl
  refine lv_iload_n hx hb dJ_floorMod_0 rfl (lv_at hl 0 rfl) ?_
  refine lv_iload_n hx hb dJ_floorMod_1 rfl (lv_at hl 1 rfl) ?_
  refine lv_irem hx hb dJ_floorMod_2 (hy) ?_
  refine lv_istore_n (lv' := [(2, .int (x - x / y * y)), (0, .int x), (1, .int y)]) hx hb dJ_floorMod_3 rfl hl (by decide) rfl (fun ls hl => ?_)
  refine lv_iload_n hx hb dJ_floorMod_4 rfl (lv_at hl 1 rfl) ?_
  refine lv_iload_n hx hb dJ_floorMod_5 rfl (lv_at hl 2 rfl) ?_
  refine lv_ixor hx hb dJ_floorMod_6 ?_
  refine lv_if_ge (tgt := 18) hx hb dJ_floorMod_7 (by decide) (fun c_7 => ?_) (fun c_7 => ?_)
  · skip
    refine lv_iload_n hx hb dJ_floorMod_18 rfl (lv_at hl 0 rfl) ?_
    exact W.iret (v := x - x / y * y) hx hb hr (fun t ht hW => ⟨_, rfl, by unfold jfm; rw [if_pos c_7], ht⟩) (fun _ h => nomatch h) dJ_floorMod_19
  · skip
    refine lv_iload_n hx hb dJ_floorMod_10 rfl (lv_at hl 0 rfl) ?_
    refine lv_if_eq (tgt := 18) hx hb dJ_floorMod_11 (by decide) (fun c_11 => ?_) (fun c_11 => ?_)
    · skip
      refine lv_iload_n hx hb dJ_floorMod_18 rfl (lv_at hl 0 rfl) ?_
      exact W.iret (v := x - x / y * y) hx hb hr (fun t ht hW => ⟨_, rfl, by unfold jfm; rw [if_neg c_7, if_pos c_11], ht⟩) (fun _ h => nomatch h) dJ_floorMod_19
    · skip
      refine lv_iload_n hx hb dJ_floorMod_14 rfl (lv_at hl 0 rfl) ?_
      refine lv_iload_n hx hb dJ_floorMod_15 rfl (lv_at hl 2 rfl) ?_
      refine lv_iadd hx hb dJ_floorMod_16 ?_
      exact W.iret (v := (x - x / y * y) + y) hx hb hr (fun t ht hW => ⟨_, rfl, by unfold jfm; rw [if_neg c_7, if_neg c_11], ht⟩) (fun _ h => nomatch h) dJ_floorMod_17

set_option maxHeartbeats 4000000 in
set_option maxRecDepth 100000 in
theorem kJ_floorDiv (l : Launch) (x y : Int64) (hy : ¬ y = 0) : Met l yJ_floorDiv (wc yJ_floorDiv cJ_floorDiv 6 (some .long)) ({ frames := 0, cells := 0, slots := 0, locals := 0 } : Room) (va_Pc [.long x, .long y] (fun _ => True)) (vp_Sl (fun r => r = jfd x y)) 0 0 (fun _ => False) := by
  refine va_MetF (cc := cJ_floorDiv) (maxL := 6) (ret := (some .long)) (by decide +kernel) rfl ?_
  intro p e s m args below meth c s₁ B hml hv
  obtain ⟨rfl, -⟩ := hv
  have hx := B.exec
  have hb := B.bytes
  have hr := B.returns
  have hts : ∀ w9 ∈ ws_all, w9.before ([.long x, .long y] : List Value).toArray s = true := fun w9 h => atoms_spec (ws := (wc yJ_floorDiv cJ_floorDiv 6 (some .long))) B.pre w9 (List.mem_cons_of_mem _ h)
  have hown : s.vm.findClass RJ = some m.cls := findClass_of_methodNamed B.named
  have hlocks := B.notSynchronized
  have hl := lv_entry ([.long x, .long y]) (n := 6) (Nat.le_of_ble_eq_true rfl)
  rw [lg_entry_eq]
  generalize (lg_sl ([.long x, .long y]) ++ List.replicate (6 - (lg_sl ([.long x, .long y])).length) Slot.unset).toArray = ls at hl ⊢
  have hl : lv_has ls 6 [(0, .long x), (2, .long y)] := hl
  refine lv_lload_n hx hb dJ_floorDiv_0 rfl (lv_at hl 0 rfl) ?_
  refine lv_lload_n hx hb dJ_floorDiv_1 rfl (lv_at hl 1 rfl) ?_
  refine lv_ldiv hx hb dJ_floorDiv_2 (hy) ?_
  refine lv_lstore (lv' := [(4, .long (x / y)), (0, .long x), (2, .long y)]) hx hb dJ_floorDiv_3 hl (by decide) rfl (fun ls hl => ?_)
  refine lv_lload_n hx hb dJ_floorDiv_5 rfl (lv_at hl 1 rfl) ?_
  refine lv_lload_n hx hb dJ_floorDiv_6 rfl (lv_at hl 2 rfl) ?_
  refine lv_lxor hx hb dJ_floorDiv_7 ?_
  refine lv_lconst (v := 0) hx hb dJ_floorDiv_8 (by decide) ?_
  refine W.lcmp hx hb dJ_floorDiv_9 ?_
  refine lv_if_ge (tgt := 27) hx hb dJ_floorDiv_10 (by decide) (fun c_10 => ?_) (fun c_10 => ?_)
  · skip
    refine lv_lload hx hb dJ_floorDiv_27 (lv_at hl 0 rfl) ?_
    exact W.lret (v := x / y) hx hb hr (fun t ht hW => ⟨_, rfl, by unfold jfd; rw [if_pos c_10], ht⟩) (fun _ h => nomatch h) dJ_floorDiv_29
  · skip
    refine lv_lload hx hb dJ_floorDiv_13 (lv_at hl 0 rfl) ?_
    refine lv_lload_n hx hb dJ_floorDiv_15 rfl (lv_at hl 2 rfl) ?_
    refine lv_lmul hx hb dJ_floorDiv_16 ?_
    refine lv_lload_n hx hb dJ_floorDiv_17 rfl (lv_at hl 1 rfl) ?_
    refine W.lcmp hx hb dJ_floorDiv_18 ?_
    refine lv_if_eq (tgt := 27) hx hb dJ_floorDiv_19 (by decide) (fun c_19 => ?_) (fun c_19 => ?_)
    · skip
      refine lv_lload hx hb dJ_floorDiv_27 (lv_at hl 0 rfl) ?_
      exact W.lret (v := x / y) hx hb hr (fun t ht hW => ⟨_, rfl, by unfold jfd; rw [if_neg c_10, if_pos c_19], ht⟩) (fun _ h => nomatch h) dJ_floorDiv_29
    · skip
      refine lv_lload hx hb dJ_floorDiv_22 (lv_at hl 0 rfl) ?_
      refine lv_lconst (v := 1) hx hb dJ_floorDiv_24 (by decide) ?_
      refine lv_lsub hx hb dJ_floorDiv_25 ?_
      exact W.lret (v := (x / y) - 1) hx hb hr (fun t ht hW => ⟨_, rfl, by unfold jfd; rw [if_neg c_10, if_neg c_19], ht⟩) (fun _ h => nomatch h) dJ_floorDiv_26

set_option maxHeartbeats 4000000 in
set_option maxRecDepth 100000 in
/-- SIN of the document -/
theorem kS_sine (l : Launch) (k : Int32) : Met l yS_sine (wc yS_sine cS_sine 9 (some .int)) ({ frames := 1, cells := 0, slots := 0, locals := 25 } : Room) (va_Pc [.int k] (fun _ => True)) (vp_Si (fun r => r = jsin k)) 0 0 (fun _ => False) := by
  refine Met.ofW (cc := cS_sine) (maxL := 9) (ret := (some .int)) (by decide +kernel) rfl ?_
  intro p e s m args below meth c s₁ B hml hv
  obtain ⟨rfl, -⟩ := hv
  have hx := B.exec
  have hb := B.bytes
  have hr := B.returns
  have hts : ∀ w9 ∈ ws_all, w9.before ([.int k] : List Value).toArray s = true := fun w9 h => atoms_spec (ws := (wc yS_sine cS_sine 9 (some .int))) B.pre w9 (List.mem_cons_of_mem _ h)
  have hown : s.vm.findClass RS = some m.cls := findClass_of_methodNamed B.named
  have hlocks := B.notSynchronized
  have hl := lv_entry ([.int k]) (n := 9) (Nat.le_of_ble_eq_true rfl)
  rw [lg_entry_eq]
  generalize (lg_sl ([.int k]) ++ List.replicate (9 - (lg_sl ([.int k])).length) Slot.unset).toArray = ls at hl ⊢
  have hl : lv_has ls 9 [(0, .int k)] := hl
  refine lv_iload_n hx hb dS_sine_0 rfl (lv_at hl 0 rfl) ?_
  refine lv_sipush (v := nI 4096) hx hb dS_sine_1 (by decide) ?_
  refine vp_callSi (va_Run.run (bc_runS (own := RS) (As := [.int k, .int (nI 4096)]) (rest := []) hx hb (hml.trans hl.1.symm) hown hts (kJ_floorMod l k (nI 4096) (by decide)) w_60 w_58 w_59 w_3 hd_J_floorMod rfl ⟨rfl, rfl⟩ ⟨Nat.le_of_ble_eq_true rfl, Nat.le_of_ble_eq_true rfl⟩ (fun _ _ _ _ _ => trivial) (fun _ _ _ => trivial) rfl (Nat.le_of_ble_eq_true rfl) dS_sine_4 ⟨Nat.le_of_ble_eq_true rfl, Nat.le_of_ble_eq_true rfl⟩)) (fun r_4 hr_4 => ?_)
  refine ln_asi (jang k) (by exact hr_4) ?_
  refine lv_istore_n (lv' := [(1, .int (jang k)), (0, .int k)]) hx hb dS_sine_7 rfl hl (by decide) rfl (fun ls hl => ?_)
  refine lv_iload_n hx hb dS_sine_8 rfl (lv_at hl 0 rfl) ?_
  refine lv_sipush (v := nI 2048) hx hb dS_sine_9 (by decide) ?_
  refine lv_icmp_ge (tgt := 19) hx hb dS_sine_12 (by decide) (fun c_12 => ?_) (fun c_12 => ?_)
  · skip
    refine lv_iload_n hx hb dS_sine_19 rfl (lv_at hl 0 rfl) ?_
    refine lv_sipush (v := nI 2048) hx hb dS_sine_20 (by decide) ?_
    refine lv_isub hx hb dS_sine_23 ?_
    refine ln_asi (jhalf (jang k)) (by unfold jhalf; rw [if_pos c_12]) ?_
    refine lv_istore_n (lv' := [(2, .int (jhalf (jang k))), (1, .int (jang k)), (0, .int k)]) hx hb dS_sine_24 rfl hl (by decide) rfl (fun ls hl => ?_)
    refine lv_iload_n hx hb dS_sine_25 rfl (lv_at hl 0 rfl) ?_
    refine lv_i2l (v := (jhalf (jang k)).toInt64) hx hb dS_sine_26 rfl ?_
    refine lv_sipush (v := nI 2048) hx hb dS_sine_27 (by decide) ?_
    refine lv_iload_n hx hb dS_sine_30 rfl (lv_at hl 0 rfl) ?_
    refine lv_isub hx hb dS_sine_31 ?_
    refine lv_i2l (v := ((nI 2048) - (jhalf (jang k))).toInt64) hx hb dS_sine_32 rfl ?_
    refine lv_lmul hx hb dS_sine_33 ?_
    refine ln_asl (jp (jhalf (jang k))) (by rfl) ?_
    refine lv_lstore_n (lv' := [(3, .long (jp (jhalf (jang k)))), (2, .int (jhalf (jang k))), (1, .int (jang k)), (0, .int k)]) hx hb dS_sine_34 rfl hl (by decide) rfl (fun ls hl => ?_)
    refine lv_ldc2 (own := RS) (index := 161) (v := 20971520) hx hb hown (hts _ w_61) dS_sine_35 ?_
    refine lv_ldc2 (own := RS) (index := 163) (v := 4) hx hb hown (hts _ w_62) dS_sine_38 ?_
    refine lv_lload_n hx hb dS_sine_41 rfl (lv_at hl 0 rfl) ?_
    refine lv_lmul hx hb dS_sine_42 ?_
    refine lv_lsub hx hb dS_sine_43 ?_
    refine ln_asl (jdv (jp (jhalf (jang k)))) (by rfl) ?_
    refine lv_lstore (lv' := [(5, .long (jdv (jp (jhalf (jang k))))), (3, .long (jp (jhalf (jang k)))), (2, .int (jhalf (jang k))), (1, .int (jang k)), (0, .int k)]) hx hb dS_sine_44 hl (by decide) rfl (fun ls hl => ?_)
    refine lv_lload hx hb dS_sine_46 (lv_at hl 0 rfl) ?_
    refine lv_lconst (v := 0) hx hb dS_sine_48 (by decide) ?_
    refine W.lcmp hx hb dS_sine_49 ?_
    refine lv_if_le (tgt := 66) hx hb dS_sine_50 (by decide) (fun c_50 => ?_) (fun c_50 => ?_)
    · skip
      refine lv_lconst (v := 0) hx hb dS_sine_66 (by decide) ?_
      refine ln_asl (jht (jp (jhalf (jang k)))) (by unfold jht; rw [if_pos c_50]) ?_
      refine lv_lstore (lv' := [(7, .long (jht (jp (jhalf (jang k))))), (5, .long (jdv (jp (jhalf (jang k))))), (3, .long (jp (jhalf (jang k)))), (2, .int (jhalf (jang k))), (1, .int (jang k)), (0, .int k)]) hx hb dS_sine_67 hl (by decide) rfl (fun ls hl => ?_)
      refine lv_iload_n hx hb dS_sine_69 rfl (lv_at hl 4 rfl) ?_
      refine lv_sipush (v := nI 2048) hx hb dS_sine_70 (by decide) ?_
      refine lv_icmp_ge (tgt := 81) hx hb dS_sine_73 (by decide) (fun c_73 => ?_) (fun c_73 => ?_)
      · skip
        refine lv_lload hx hb dS_sine_81 (lv_at hl 0 rfl) ?_
        refine lv_lneg hx hb dS_sine_83 ?_
        refine ln_asl (jsg (jang k) (jht (jp (jhalf (jang k))))) (by unfold jsg; rw [if_pos c_73]) ?_
        refine lv_l2i (v := (jsg (jang k) (jht (jp (jhalf (jang k))))).toInt32) hx hb dS_sine_84 rfl ?_
        exact W.iret (v := (jsg (jang k) (jht (jp (jhalf (jang k))))).toInt32) hx hb hr (fun t ht hW => ⟨_, rfl, rfl, ht⟩) (fun _ h => nomatch h) dS_sine_85
      · skip
        refine lv_lload hx hb dS_sine_76 (lv_at hl 0 rfl) ?_
        refine lv_goto (tgt := 84) hx hb dS_sine_78 (by decide) ?_
        refine ln_asl (jsg (jang k) (jht (jp (jhalf (jang k))))) (by unfold jsg; rw [if_neg c_73]) ?_
        refine lv_l2i (v := (jsg (jang k) (jht (jp (jhalf (jang k))))).toInt32) hx hb dS_sine_84 rfl ?_
        exact W.iret (v := (jsg (jang k) (jht (jp (jhalf (jang k))))).toInt32) hx hb hr (fun t ht hW => ⟨_, rfl, rfl, ht⟩) (fun _ h => nomatch h) dS_sine_85
    · skip
      refine lv_ldc2 (own := RS) (index := 165) (v := 1048576) hx hb hown (hts _ w_63) dS_sine_53 ?_
      refine lv_lload_n hx hb dS_sine_56 rfl (lv_at hl 1 rfl) ?_
      refine lv_lmul hx hb dS_sine_57 ?_
      refine lv_lload hx hb dS_sine_58 (lv_at hl 0 rfl) ?_
      refine vp_callSl (va_Run.run (bc_runS (own := RS) (As := [.long (1048576 * (jp (jhalf (jang k)))), .long (jdv (jp (jhalf (jang k))))]) (rest := []) hx hb (hml.trans hl.1.symm) hown hts (kJ_floorDiv l (1048576 * (jp (jhalf (jang k)))) (jdv (jp (jhalf (jang k)))) (fun h => c_50 (by rw [h]; decide))) w_66 w_64 w_65 w_3 hd_J_floorDiv rfl ⟨rfl, rfl⟩ ⟨Nat.le_of_ble_eq_true rfl, Nat.le_of_ble_eq_true rfl⟩ (fun _ _ _ _ _ => trivial) (fun _ _ _ => trivial) rfl (Nat.le_of_ble_eq_true rfl) dS_sine_60 ⟨Nat.le_of_ble_eq_true rfl, Nat.le_of_ble_eq_true rfl⟩)) (fun r_60 hr_60 => ?_)
      refine lv_goto (tgt := 67) hx hb dS_sine_63 (by decide) ?_
      refine ln_asl (jht (jp (jhalf (jang k)))) (by rw [hr_60]; unfold jht; rw [if_neg c_50]) ?_
      refine lv_lstore (lv' := [(7, .long (jht (jp (jhalf (jang k))))), (5, .long (jdv (jp (jhalf (jang k))))), (3, .long (jp (jhalf (jang k)))), (2, .int (jhalf (jang k))), (1, .int (jang k)), (0, .int k)]) hx hb dS_sine_67 hl (by decide) rfl (fun ls hl => ?_)
      refine lv_iload_n hx hb dS_sine_69 rfl (lv_at hl 4 rfl) ?_
      refine lv_sipush (v := nI 2048) hx hb dS_sine_70 (by decide) ?_
      refine lv_icmp_ge (tgt := 81) hx hb dS_sine_73 (by decide) (fun c_73 => ?_) (fun c_73 => ?_)
      · skip
        refine lv_lload hx hb dS_sine_81 (lv_at hl 0 rfl) ?_
        refine lv_lneg hx hb dS_sine_83 ?_
        refine ln_asl (jsg (jang k) (jht (jp (jhalf (jang k))))) (by unfold jsg; rw [if_pos c_73]) ?_
        refine lv_l2i (v := (jsg (jang k) (jht (jp (jhalf (jang k))))).toInt32) hx hb dS_sine_84 rfl ?_
        exact W.iret (v := (jsg (jang k) (jht (jp (jhalf (jang k))))).toInt32) hx hb hr (fun t ht hW => ⟨_, rfl, rfl, ht⟩) (fun _ h => nomatch h) dS_sine_85
      · skip
        refine lv_lload hx hb dS_sine_76 (lv_at hl 0 rfl) ?_
        refine lv_goto (tgt := 84) hx hb dS_sine_78 (by decide) ?_
        refine ln_asl (jsg (jang k) (jht (jp (jhalf (jang k))))) (by unfold jsg; rw [if_neg c_73]) ?_
        refine lv_l2i (v := (jsg (jang k) (jht (jp (jhalf (jang k))))).toInt32) hx hb dS_sine_84 rfl ?_
        exact W.iret (v := (jsg (jang k) (jht (jp (jhalf (jang k))))).toInt32) hx hb hr (fun t ht hW => ⟨_, rfl, rfl, ht⟩) (fun _ h => nomatch h) dS_sine_85
  · skip
    refine lv_iload_n hx hb dS_sine_15 rfl (lv_at hl 0 rfl) ?_
    refine lv_goto (tgt := 24) hx hb dS_sine_16 (by decide) ?_
    refine ln_asi (jhalf (jang k)) (by unfold jhalf; rw [if_neg c_12]) ?_
    refine lv_istore_n (lv' := [(2, .int (jhalf (jang k))), (1, .int (jang k)), (0, .int k)]) hx hb dS_sine_24 rfl hl (by decide) rfl (fun ls hl => ?_)
    refine lv_iload_n hx hb dS_sine_25 rfl (lv_at hl 0 rfl) ?_
    refine lv_i2l (v := (jhalf (jang k)).toInt64) hx hb dS_sine_26 rfl ?_
    refine lv_sipush (v := nI 2048) hx hb dS_sine_27 (by decide) ?_
    refine lv_iload_n hx hb dS_sine_30 rfl (lv_at hl 0 rfl) ?_
    refine lv_isub hx hb dS_sine_31 ?_
    refine lv_i2l (v := ((nI 2048) - (jhalf (jang k))).toInt64) hx hb dS_sine_32 rfl ?_
    refine lv_lmul hx hb dS_sine_33 ?_
    refine ln_asl (jp (jhalf (jang k))) (by rfl) ?_
    refine lv_lstore_n (lv' := [(3, .long (jp (jhalf (jang k)))), (2, .int (jhalf (jang k))), (1, .int (jang k)), (0, .int k)]) hx hb dS_sine_34 rfl hl (by decide) rfl (fun ls hl => ?_)
    refine lv_ldc2 (own := RS) (index := 161) (v := 20971520) hx hb hown (hts _ w_61) dS_sine_35 ?_
    refine lv_ldc2 (own := RS) (index := 163) (v := 4) hx hb hown (hts _ w_62) dS_sine_38 ?_
    refine lv_lload_n hx hb dS_sine_41 rfl (lv_at hl 0 rfl) ?_
    refine lv_lmul hx hb dS_sine_42 ?_
    refine lv_lsub hx hb dS_sine_43 ?_
    refine ln_asl (jdv (jp (jhalf (jang k)))) (by rfl) ?_
    refine lv_lstore (lv' := [(5, .long (jdv (jp (jhalf (jang k))))), (3, .long (jp (jhalf (jang k)))), (2, .int (jhalf (jang k))), (1, .int (jang k)), (0, .int k)]) hx hb dS_sine_44 hl (by decide) rfl (fun ls hl => ?_)
    refine lv_lload hx hb dS_sine_46 (lv_at hl 0 rfl) ?_
    refine lv_lconst (v := 0) hx hb dS_sine_48 (by decide) ?_
    refine W.lcmp hx hb dS_sine_49 ?_
    refine lv_if_le (tgt := 66) hx hb dS_sine_50 (by decide) (fun c_50 => ?_) (fun c_50 => ?_)
    · skip
      refine lv_lconst (v := 0) hx hb dS_sine_66 (by decide) ?_
      refine ln_asl (jht (jp (jhalf (jang k)))) (by unfold jht; rw [if_pos c_50]) ?_
      refine lv_lstore (lv' := [(7, .long (jht (jp (jhalf (jang k))))), (5, .long (jdv (jp (jhalf (jang k))))), (3, .long (jp (jhalf (jang k)))), (2, .int (jhalf (jang k))), (1, .int (jang k)), (0, .int k)]) hx hb dS_sine_67 hl (by decide) rfl (fun ls hl => ?_)
      refine lv_iload_n hx hb dS_sine_69 rfl (lv_at hl 4 rfl) ?_
      refine lv_sipush (v := nI 2048) hx hb dS_sine_70 (by decide) ?_
      refine lv_icmp_ge (tgt := 81) hx hb dS_sine_73 (by decide) (fun c_73 => ?_) (fun c_73 => ?_)
      · skip
        refine lv_lload hx hb dS_sine_81 (lv_at hl 0 rfl) ?_
        refine lv_lneg hx hb dS_sine_83 ?_
        refine ln_asl (jsg (jang k) (jht (jp (jhalf (jang k))))) (by unfold jsg; rw [if_pos c_73]) ?_
        refine lv_l2i (v := (jsg (jang k) (jht (jp (jhalf (jang k))))).toInt32) hx hb dS_sine_84 rfl ?_
        exact W.iret (v := (jsg (jang k) (jht (jp (jhalf (jang k))))).toInt32) hx hb hr (fun t ht hW => ⟨_, rfl, rfl, ht⟩) (fun _ h => nomatch h) dS_sine_85
      · skip
        refine lv_lload hx hb dS_sine_76 (lv_at hl 0 rfl) ?_
        refine lv_goto (tgt := 84) hx hb dS_sine_78 (by decide) ?_
        refine ln_asl (jsg (jang k) (jht (jp (jhalf (jang k))))) (by unfold jsg; rw [if_neg c_73]) ?_
        refine lv_l2i (v := (jsg (jang k) (jht (jp (jhalf (jang k))))).toInt32) hx hb dS_sine_84 rfl ?_
        exact W.iret (v := (jsg (jang k) (jht (jp (jhalf (jang k))))).toInt32) hx hb hr (fun t ht hW => ⟨_, rfl, rfl, ht⟩) (fun _ h => nomatch h) dS_sine_85
    · skip
      refine lv_ldc2 (own := RS) (index := 165) (v := 1048576) hx hb hown (hts _ w_63) dS_sine_53 ?_
      refine lv_lload_n hx hb dS_sine_56 rfl (lv_at hl 1 rfl) ?_
      refine lv_lmul hx hb dS_sine_57 ?_
      refine lv_lload hx hb dS_sine_58 (lv_at hl 0 rfl) ?_
      refine vp_callSl (va_Run.run (bc_runS (own := RS) (As := [.long (1048576 * (jp (jhalf (jang k)))), .long (jdv (jp (jhalf (jang k))))]) (rest := []) hx hb (hml.trans hl.1.symm) hown hts (kJ_floorDiv l (1048576 * (jp (jhalf (jang k)))) (jdv (jp (jhalf (jang k)))) (fun h => c_50 (by rw [h]; decide))) w_66 w_64 w_65 w_3 hd_J_floorDiv rfl ⟨rfl, rfl⟩ ⟨Nat.le_of_ble_eq_true rfl, Nat.le_of_ble_eq_true rfl⟩ (fun _ _ _ _ _ => trivial) (fun _ _ _ => trivial) rfl (Nat.le_of_ble_eq_true rfl) dS_sine_60 ⟨Nat.le_of_ble_eq_true rfl, Nat.le_of_ble_eq_true rfl⟩)) (fun r_60 hr_60 => ?_)
      refine lv_goto (tgt := 67) hx hb dS_sine_63 (by decide) ?_
      refine ln_asl (jht (jp (jhalf (jang k)))) (by rw [hr_60]; unfold jht; rw [if_neg c_50]) ?_
      refine lv_lstore (lv' := [(7, .long (jht (jp (jhalf (jang k))))), (5, .long (jdv (jp (jhalf (jang k))))), (3, .long (jp (jhalf (jang k)))), (2, .int (jhalf (jang k))), (1, .int (jang k)), (0, .int k)]) hx hb dS_sine_67 hl (by decide) rfl (fun ls hl => ?_)
      refine lv_iload_n hx hb dS_sine_69 rfl (lv_at hl 4 rfl) ?_
      refine lv_sipush (v := nI 2048) hx hb dS_sine_70 (by decide) ?_
      refine lv_icmp_ge (tgt := 81) hx hb dS_sine_73 (by decide) (fun c_73 => ?_) (fun c_73 => ?_)
      · skip
        refine lv_lload hx hb dS_sine_81 (lv_at hl 0 rfl) ?_
        refine lv_lneg hx hb dS_sine_83 ?_
        refine ln_asl (jsg (jang k) (jht (jp (jhalf (jang k))))) (by unfold jsg; rw [if_pos c_73]) ?_
        refine lv_l2i (v := (jsg (jang k) (jht (jp (jhalf (jang k))))).toInt32) hx hb dS_sine_84 rfl ?_
        exact W.iret (v := (jsg (jang k) (jht (jp (jhalf (jang k))))).toInt32) hx hb hr (fun t ht hW => ⟨_, rfl, rfl, ht⟩) (fun _ h => nomatch h) dS_sine_85
      · skip
        refine lv_lload hx hb dS_sine_76 (lv_at hl 0 rfl) ?_
        refine lv_goto (tgt := 84) hx hb dS_sine_78 (by decide) ?_
        refine ln_asl (jsg (jang k) (jht (jp (jhalf (jang k))))) (by unfold jsg; rw [if_neg c_73]) ?_
        refine lv_l2i (v := (jsg (jang k) (jht (jp (jhalf (jang k))))).toInt32) hx hb dS_sine_84 rfl ?_
        exact W.iret (v := (jsg (jang k) (jht (jp (jhalf (jang k))))).toInt32) hx hb hr (fun t ht hW => ⟨_, rfl, rfl, ht⟩) (fun _ h => nomatch h) dS_sine_85
