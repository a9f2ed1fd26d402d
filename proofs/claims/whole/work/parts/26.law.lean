/-! THE CLAIM OUT OF ONE WALK OF THE LAW'S BODY -/
def R_law : String := "SceneTreeLaw"
def lw_P (b : Addr) (xs : List Int32) (args : Array Value) (s : State) : Prop := args = #[.ref b] ∧ s.IntsAt b xs ∧ xs.length ≤ 3072 ∧ (Jvm.Cond.and given_1 narrow_1).before args s = true
def lw_Q (_ : Array Value) (s : State) (o : Outcome) (t : State) : Prop := o = .returned (some (.int 1)) ∧ Framed s o t [] 601024 7293033
def lw_Z (below : List Frame) (a : Array Value) (s : State) : State → Prop := fun t => ∃ o, t.status = .running ∧ Ended t below o ∧ lw_Q a s o t
/-- the law's own end, with 1 on the stack, nothing written that was there before, its room as the claim has it -/
theorem lw_ret {p : Program} {l : Launch} {e : Env} {s : State} {m : MethodId} {below : List Frame} {meth : Method} {c : Code} {b : Nat} (hx : p.tables.exec = Jvm.exec) (hb : c.code = code) (hr : meth.sig.returnType = ret) (hlocks : meth.locks = false) {pc : Nat} {H : Heap} {ls : Array Slot} (hdg : decode code pc = .ok (.ireturn, 1)) : W p l e room_1 s m #[Value.ref b] below meth c H [] 601024 7293033 (lw_Z below #[Value.ref b] s) (F0 m pc ls [.int 1]) := by
  intro T hT X
  obtain ⟨fs, hret, hrun, hended, hW, hframe⟩ := X.leave (v := some (.int 1)) (hlocks := hlocks) (fun h => by rw [hr] at h; cases h)
  have hmeth' : T.vm.method? m = some meth := X.method'
  refine ⟨T.setFrames fs, ?_, .returned (some (.int 1)), hrun, hended, rfl, ⟨_, rfl⟩, hW, hframe⟩
  jvm_step X.here [X.here.top, hx, hb, hdg, hmeth', hr, ret, narrow_b1]
  (try refine ⟨rfl, ?_⟩); (try refine ⟨rfl, ?_⟩)
  first | (intro acts; rw [hret _ acts rfl rfl rfl]) | rw [hret _ _ rfl rfl rfl]
  exact Steps.refl _
/-- what holds at the law's entry: the machine, the code, the tables' words (any of lw_tbl by 'hts w (by decide +kernel)'), the script of L ints xs at the cell b, what the Statement gives of the start (any of its parts by flat_of_before) -/
def lw_At (p : Program) (s : State) (m : MethodId) (meth : Method) (c : Code) (b L : Nat) (xs : Nat → Int32) : Prop :=
  p.tables.exec = Jvm.exec ∧ c.code = code ∧ meth.sig.returnType = ret ∧ c.maxLocals = 7 ∧ s.vm.findClass R_law = some m.cls ∧ (∀ w ∈ lw_tbl, w.before #[Value.ref b] s = true) ∧ va_X b L xs s s.heap ∧ b < s.heap.size ∧ meth.locks = false ∧ (Jvm.Cond.and given_1 narrow_1).before #[Value.ref b] s = true
/-! THE LAW'S WORLD: the class's block at o, the reference's at oM, the array of one long at oL; all of it is new -/
def lwB (D : va_G) (cs : Nat → ClassId) (o oM oL : Nat) (M : Nat → Nat → Int32) (R : Nat → mRow) (g : Nat → Int64) (H : Heap) : Prop :=
  va_P D cls3 (bw (ca o) 162 (fun j => sc_cell cs (ca o) j (M j))) H ∧ va_P D cls3 (bw (ca oM) 13 (fun j => mc_cell cs (ca oM) j (R j))) H ∧ va_P D cls3 (oc cs oL g) H
def lwF (p : Program) (l : Launch) (s : State) (m : MethodId) (c : Code) (b L : Nat) (xs : Nat → Int32) (D : va_G) (cs : Nat → ClassId) (o oM oL : Nat) : Prop :=
  p.tables.exec = Jvm.exec ∧ c.code = cL_law ∧ c.maxLocals = 7 ∧ s.vm.findClass RL = some m.cls ∧ (∀ w ∈ ws_all, w.before #[Value.ref b] s = true) ∧ va_X b L xs s s.heap ∧ b < s.heap.size ∧ L ≤ 3072 ∧ bE D (a_tys cs) s ∧ thrOk s ∧ sZ (gA s.heap.size) s ∧ l.stackTraces = false ∧ s.heap.size ≤ o ∧ o + 162 ≤ oM ∧ oM + 13 ≤ oL
theorem bw_keep {D : va_G} {o n : Nat} {f : Nat → va_E} {H H1 : Heap} {B : Nat → Prop} (hP : va_P D cls3 (bw (ca o) n f) H) (hk : ∀ q : Nat, q < H.size → ¬ B q → H1[q]? = H[q]?) (hn : ∀ q, o ≤ q → q < o + n → q < H.size → ¬ B q) : va_P D cls3 (bw (ca o) n f) H1 := hP.kept fun k q hq => by
  have hlt := (hP k q hq).lt
  obtain ⟨h1, rfl⟩ := bw_inv hq
  exact hk _ hlt (hn _ (Nat.le_add_right o k) (Nat.add_lt_add_left h1 o) hlt)
theorem oc_keep {D : va_G} {cs : Nat → ClassId} {w : Nat} {g : Nat → Int64} {H H1 : Heap} {B : Nat → Prop} (hP : va_P D cls3 (oc cs w g) H) (hk : ∀ q : Nat, q < H.size → ¬ B q → H1[q]? = H[q]?) (hn : w < H.size → ¬ B w) : va_P D cls3 (oc cs w g) H1 := hP.kept fun k q hq => by
  have hlt := (hP k q hq).lt
  have h0 : k < 1 := (List.getElem?_eq_some_iff.mp hq).1
  rw [show k = 0 by omega] at hq
  cases hq
  exact hk _ hlt (hn hlt)
theorem not_bA {o n sz q : Nat} (h1 : q < sz) (h2 : q < o ∨ o + n ≤ q) : ¬ bw_A (ca o) n sz q := fun h => by
  rcases h with ⟨k, hk, e⟩ | h
  · have e : q = o + k := e
    omega
  · omega
theorem bA_ge {o n sz q a : Nat} (h : bw_A (ca o) n sz q) (h1 : a ≤ o) (h2 : a ≤ sz) : gA a q := by
  rcases h with ⟨k, _, e⟩ | h
  · have e : q = o + k := e
    show a ≤ q
    omega
  · exact Nat.le_trans h2 h
section LW
variable {p : Program} {l : Launch} {e : Env} {R : Room} {s : State} {m : MethodId} {args : Array Value} {below : List Frame} {meth : Method} {c : Code} {H : Heap} {locs : List Loc} {cells slots : Nat} {Q : State → Prop}
variable {cc : ByteArray} {pc : Nat} {ls : Array Slot} {rest : List Value} {D : va_G} {cs : Nat → ClassId} {mc ms : Nat} {st0 : List Value} {a : Array Value} {o oM oL : Nat} {M : Nat → Nat → Int32} {R0 : Nat → mRow} {g : Nat → Int64}
theorem lw_sld (hx : p.tables.exec = Jvm.exec) (hb : c.code = cc) {b L : Nat} {xs : Nat → Int32} (hX : va_X b L xs s s.heap) (hbl : b < s.heap.size) (hL : L ≤ 3072) (hS : va_S (gA s.heap.size) s.heap H locs) {k : Nat} (hk : k < L) (hdg : decode cc pc = .ok (.iaload, 1)) (kk : W p l e R s m args below meth c H locs cells slots Q (F0 m (pc + 1) ls (.int (xs k) :: rest))) : W p l e R s m args below meth c H locs cells slots Q (F0 m pc ls (.int (nI k) :: .ref b :: rest)) := by
  refine va_sld hx hb hX hbl (Nat.not_le.mpr hbl) hS (vp_in_nI hk (by omega)) hdg ?_
  rw [nI_clamp (by omega)]
  exact kk
theorem lw_Si {post : Int32 → (Nat → Nat → Int32) → Prop} (ho : s.heap.size ≤ o) (hoM : o + 162 ≤ oM) (hoL : oM + 13 ≤ oL) (hB : lwB D cs o oM oL M R0 g H) (hr : va_Run p l e R s m args below meth c H locs cells slots mc ms (F0 m pc ls st0) rest (bQi D (ca o) 162 (sc_cell cs (ca o)) H.size post a) (bw_A (ca o) 162 H.size)) (hS : va_S (gA s.heap.size) s.heap H locs)
    (kk : ∀ (r : Int32) (M1 : Nat → Nat → Int32) (H1 : Heap) (locs1 : List Loc), post r M1 → lwB D cs o oM oL M1 R0 g H1 → va_S (gA s.heap.size) s.heap H1 locs1 → W p l e R s m args below meth c H1 locs1 (cells + mc) (slots + ms) Q (F0 m (pc + 3) ls (.int r :: rest))) : W p l e R s m args below meth c H locs cells slots Q (F0 m pc ls st0) :=
  va_calli hr hS (fun _ _ h => bA_ge h ho hS.1) (fun _ h => bA_ge h ho hS.1) (fun r u t H1 locs1 ht _ hw hB1 _ hk hS1 => kk r u H1 locs1 hw ⟨by rw [← ht]; exact hB1, bw_keep hB.2.1 hk (fun q h1 h2 h3 => not_bA h3 (Or.inr (by omega))), oc_keep hB.2.2 hk (fun h3 => not_bA h3 (Or.inr (by omega)))⟩ hS1)
theorem lw_Sv {post : (Nat → Nat → Int32) → Prop} (ho : s.heap.size ≤ o) (hoM : o + 162 ≤ oM) (hoL : oM + 13 ≤ oL) (hB : lwB D cs o oM oL M R0 g H) (hr : va_Run p l e R s m args below meth c H locs cells slots mc ms (F0 m pc ls st0) rest (bQv D (ca o) 162 (sc_cell cs (ca o)) H.size post a) (bw_A (ca o) 162 H.size)) (hS : va_S (gA s.heap.size) s.heap H locs)
    (kk : ∀ (M1 : Nat → Nat → Int32) (H1 : Heap) (locs1 : List Loc), post M1 → lwB D cs o oM oL M1 R0 g H1 → va_S (gA s.heap.size) s.heap H1 locs1 → W p l e R s m args below meth c H1 locs1 (cells + mc) (slots + ms) Q (F0 m (pc + 3) ls rest)) : W p l e R s m args below meth c H locs cells slots Q (F0 m pc ls st0) :=
  va_callv hr hS (fun _ _ h => bA_ge h ho hS.1) (fun _ h => bA_ge h ho hS.1) (fun u t H1 locs1 ht _ hw hB1 _ hk hS1 => kk u H1 locs1 hw ⟨by rw [← ht]; exact hB1, bw_keep hB.2.1 hk (fun q h1 h2 h3 => not_bA h3 (Or.inr (by omega))), oc_keep hB.2.2 hk (fun h3 => not_bA h3 (Or.inr (by omega)))⟩ hS1)
theorem lw_Mi {post : Int32 → (Nat → mRow) → Prop} (ho : s.heap.size ≤ o) (hoM : o + 162 ≤ oM) (hoL : oM + 13 ≤ oL) (hB : lwB D cs o oM oL M R0 g H) (hr : va_Run p l e R s m args below meth c H locs cells slots mc ms (F0 m pc ls st0) rest (bQi D (ca oM) 13 (mc_cell cs (ca oM)) H.size post a) (bw_A (ca oM) 13 H.size)) (hS : va_S (gA s.heap.size) s.heap H locs)
    (kk : ∀ (r : Int32) (R1 : Nat → mRow) (H1 : Heap) (locs1 : List Loc), post r R1 → lwB D cs o oM oL M R1 g H1 → va_S (gA s.heap.size) s.heap H1 locs1 → W p l e R s m args below meth c H1 locs1 (cells + mc) (slots + ms) Q (F0 m (pc + 3) ls (.int r :: rest))) : W p l e R s m args below meth c H locs cells slots Q (F0 m pc ls st0) :=
  va_calli hr hS (fun _ _ h => bA_ge h (by omega) hS.1) (fun _ h => bA_ge h (by omega) hS.1) (fun r u t H1 locs1 ht _ hw hB1 _ hk hS1 => kk r u H1 locs1 hw ⟨bw_keep hB.1 hk (fun q h1 h2 h3 => not_bA h3 (Or.inl (by omega))), by rw [← ht]; exact hB1, oc_keep hB.2.2 hk (fun h3 => not_bA h3 (Or.inr (by omega)))⟩ hS1)
theorem lw_Mv {post : (Nat → mRow) → Prop} (ho : s.heap.size ≤ o) (hoM : o + 162 ≤ oM) (hoL : oM + 13 ≤ oL) (hB : lwB D cs o oM oL M R0 g H) (hr : va_Run p l e R s m args below meth c H locs cells slots mc ms (F0 m pc ls st0) rest (bQv D (ca oM) 13 (mc_cell cs (ca oM)) H.size post a) (bw_A (ca oM) 13 H.size)) (hS : va_S (gA s.heap.size) s.heap H locs)
    (kk : ∀ (R1 : Nat → mRow) (H1 : Heap) (locs1 : List Loc), post R1 → lwB D cs o oM oL M R1 g H1 → va_S (gA s.heap.size) s.heap H1 locs1 → W p l e R s m args below meth c H1 locs1 (cells + mc) (slots + ms) Q (F0 m (pc + 3) ls rest)) : W p l e R s m args below meth c H locs cells slots Q (F0 m pc ls st0) :=
  va_callv hr hS (fun _ _ h => bA_ge h (by omega) hS.1) (fun _ h => bA_ge h (by omega) hS.1) (fun u t H1 locs1 ht _ hw hB1 _ hk hS1 => kk u H1 locs1 hw ⟨bw_keep hB.1 hk (fun q h1 h2 h3 => not_bA h3 (Or.inl (by omega))), by rw [← ht]; exact hB1, oc_keep hB.2.2 hk (fun h3 => not_bA h3 (Or.inr (by omega)))⟩ hS1)
theorem lw_Hi {post : Int32 → (Nat → Nat → Int32) × (Nat → Int64) → Prop} (ho : s.heap.size ≤ o) (hoM : o + 162 ≤ oM) (hoL : oM + 13 ≤ oL) (hB : lwB D cs o oM oL M R0 g H) (hr : va_Run p l e R s m args below meth c H locs cells slots mc ms (F0 m pc ls st0) rest (lQ D cs (ca o) H.size oL post a) (lA (ca o) H.size oL)) (hS : va_S (gA s.heap.size) s.heap H locs)
    (kk : ∀ (r : Int32) (M1 : Nat → Nat → Int32) (g1 : Nat → Int64) (H1 : Heap) (locs1 : List Loc), post r (M1, g1) → lwB D cs o oM oL M1 R0 g1 H1 → va_S (gA s.heap.size) s.heap H1 locs1 → W p l e R s m args below meth c H1 locs1 (cells + mc) (slots + ms) Q (F0 m (pc + 3) ls (.int r :: rest))) : W p l e R s m args below meth c H locs cells slots Q (F0 m pc ls st0) := by
  have hAA : ∀ q, lA (ca o) H.size oL q → gA s.heap.size q := fun q h => by
    rcases h with h | h
    · exact bA_ge h ho hS.1
    · show s.heap.size ≤ q
      omega
  refine va_calli hr hS (fun q _ h => hAA q h) hAA (fun r u t H1 locs1 ht _ hw hB1 _ hk hS1 => kk r u.1 u.2 H1 locs1 hw ⟨by rw [← ht]; exact hB1.1, bw_keep hB.2.1 hk (fun q h1 h2 h3 h4 => ?_), by rw [← ht]; exact hB1.2⟩ hS1)
  rcases h4 with h4 | h4
  · exact not_bA h3 (Or.inr (by omega)) h4
  · omega
end LW
theorem lg_cmp_self (x : Int64) : lg_cmp x x = 0 := by
  unfold lg_cmp
  simp
def lwK (p : Program) (l : Launch) (e : Env) (s : State) (m : MethodId) (below : List Frame) (meth : Method) (c : Code) (b : Nat) (D : va_G) (cs : Nat → ClassId) (o oM oL i cells slots : Nat) (Q : State → Prop) : Prop :=
  ∀ (A : Ab) (M : Nat → Nat → Int32) (R0 : Nat → mRow) (g : Nat → Int64) (H : Heap) (locs : List Loc) (ls : Array Slot), Cls A M → Ref A R0 → lwB D cs o oM oL M R0 g H → va_S (gA s.heap.size) s.heap H locs → lv_has ls 7 [(0, .ref b), (1, .ref o), (2, .ref oM), (3, .ref oL), (4, .int (nI i))] → W p l e room_1 s m #[Value.ref b] below meth c H locs (cells + 1) (slots + 6) Q (F0 m 655 ls [])
theorem ne_oL {o oM oL : Nat} (hoM : o + 162 ≤ oM) (hoL : oM + 13 ≤ oL) : ∀ k, k < 162 → ca o k ≠ oL := fun k hk h => by
  have h : o + k = oL := h
  omega
theorem sZ.law {s U : State} {o : Nat} {H : Heap} {locs : List Loc} (hU : U.heap = H) (hW : s.WarmedH U.vm) (ho : s.heap.size ≤ o) (hS : va_S (gA s.heap.size) s.heap H locs) (h : sZ (gA s.heap.size) s) : sZ (bw_A (ca o) 162 H.size) U := by
  have hk : ∀ a : Nat, a < s.heap.size → ¬ gA s.heap.size a → H[a]? = s.heap[a]? := fun a h1 h2 => hS.2.1 a h1 h2
  have a1 := (vx_Zq.moved (u := s) (U := U) hW.alike (h.1.kept hk)).narrow (B := bw_A (ca o) 162 H.size) (fun q h9 => bA_ge h9 ho hS.1)
  have a2 := (vx_Zq.moved (u := s) (U := U) hW.alike (h.2.kept hk)).narrow (B := bw_A (ca o) 162 H.size) (fun q h9 => bA_ge h9 ho hS.1)
  unfold sZ
  rw [hU]
  exact ⟨a1, a2⟩
set_option maxHeartbeats 4000000 in
set_option maxRecDepth 100000 in
theorem lc_add {p : Program} {l : Launch} {e : Env} {s : State} {m : MethodId} {below : List Frame} {meth : Method} {c : Code} {b L : Nat} {xs : Nat → Int32} {D : va_G} {cs : Nat → ClassId} {o oM oL : Nat} (hF : lwF p l s m c b L xs D cs o oM oL) {i : Nat} (hi : i + 6 ≤ L) {A : Ab} {M : Nat → Nat → Int32} {R0 : Nat → mRow} {g : Nat → Int64} {H : Heap} {locs : List Loc} {cells slots : Nat} {Q : State → Prop} {ls : Array Slot} (hC : Cls A M) (hR : Ref A R0) (hB : lwB D cs o oM oL M R0 g H) (hS : va_S (gA s.heap.size) s.heap H locs) (hl : lv_has ls 7 [(0, .ref b), (1, .ref o), (2, .ref oM), (3, .ref oL), (4, .int (nI i))]) (hcl : cells + 1 ≤ room_1.cells) (hsl : slots + 6 ≤ room_1.slots) (kk : lwK p l e s m below meth c b D cs o oM oL i cells slots Q) : W p l e room_1 s m #[Value.ref b] below meth c H locs cells slots Q (F0 m 104 ls []) := by
  obtain ⟨hx, hb, hml, hown, hts, hX, hbl, hL, hE, hthr, hsZ, hl0, ho, hoM, hoL⟩ := hF
  have hA : aOk A := hC.1
  refine lv_aload_n hx hb dL_law_104 rfl (lv_at hl 1 rfl) ?_
  refine lv_aload_n hx hb dL_law_105 rfl (lv_at hl 0 rfl) ?_
  refine lv_iload hx hb dL_law_106 (lv_at hl 4 rfl) ?_
  refine lv_iconst (v := nI 1) hx hb dL_law_108 (by decide) ?_
  refine ln_iadd hx hb dL_law_109 ?_
  refine lw_sld hx hb hX hbl hL hS (by omega) dL_law_110 ?_
  refine lv_aload_n hx hb dL_law_111 rfl (lv_at hl 0 rfl) ?_
  refine lv_iload hx hb dL_law_112 (lv_at hl 4 rfl) ?_
  refine lv_iconst (v := nI 2) hx hb dL_law_114 (by decide) ?_
  refine ln_iadd hx hb dL_law_115 ?_
  refine lw_sld hx hb hX hbl hL hS (by omega) dL_law_116 ?_
  refine lw_Si ho hoM hoL hB (bc_runV (own := RL) (C := RS) (As := [.int (xs (i + 1)), .int (xs (i + 2))]) (rest := []) hx hb (hml.trans hl.1.symm) hown hts (kS_add l D cs (ca o) (ca_I o 162) M H.size A hC (xs (i + 1)) (xs (i + 2))) w_134 w_131 w_132 w_133 w_1 ⟨rfl, hd_S_add⟩ rfl ⟨rfl, rfl⟩ ⟨Nat.le_of_ble_eq_true rfl, Nat.le_of_ble_eq_true rfl⟩ (fun _ _ _ _ h => h.calling) (bc_recv (r := (RS, TS, 14)) hE hB.1 0 (by decide) rfl rfl) (fun U hU hW => ⟨by rw [hU], by rw [hU]; exact hB.1, hE.warm hW⟩) rfl (Nat.le_of_ble_eq_true rfl) dL_law_117 ⟨Nat.le_of_succ_le hcl, Nat.le_trans (Nat.le_add_right _ 6) hsl⟩) hS (fun rS M1 H locs hrS hB hS => ?_)
  refine lv_aload_n hx hb dL_law_120 rfl (lv_at hl 2 rfl) ?_
  refine lv_aload_n hx hb dL_law_121 rfl (lv_at hl 0 rfl) ?_
  refine lv_iload hx hb dL_law_122 (lv_at hl 4 rfl) ?_
  refine lv_iconst (v := nI 1) hx hb dL_law_124 (by decide) ?_
  refine ln_iadd hx hb dL_law_125 ?_
  refine lw_sld hx hb hX hbl hL hS (by omega) dL_law_126 ?_
  refine lv_aload_n hx hb dL_law_127 rfl (lv_at hl 0 rfl) ?_
  refine lv_iload hx hb dL_law_128 (lv_at hl 4 rfl) ?_
  refine lv_iconst (v := nI 2) hx hb dL_law_130 (by decide) ?_
  refine ln_iadd hx hb dL_law_131 ?_
  refine lw_sld hx hb hX hbl hL hS (by omega) dL_law_132 ?_
  refine lw_Mi ho hoM hoL hB (bc_runV (own := RL) (C := RM) (As := [.int (xs (i + 1)), .int (xs (i + 2))]) (rest := [.int rS]) hx hb (hml.trans hl.1.symm) hown hts (kM_add l D cs (ca oM) (ca_I oM 13) R0 H.size A hA hR (xs (i + 1)) (xs (i + 2))) w_367 w_364 w_365 w_366 w_4 ⟨rfl, hd_M_add⟩ rfl ⟨rfl, rfl⟩ ⟨Nat.le_of_ble_eq_true rfl, Nat.le_of_ble_eq_true rfl⟩ (fun _ _ _ _ h => h.calling) (bc_recv (r := (RM, TM, 14)) hE hB.2.1 0 (by decide) rfl rfl) (fun U hU hW => ⟨by rw [hU], by rw [hU]; exact hB.2.1, hE.warm hW⟩) rfl (Nat.le_of_ble_eq_true rfl) dL_law_133 ⟨Nat.le_of_succ_le hcl, Nat.le_trans (Nat.le_add_right _ 6) hsl⟩) hS (fun rM R1 H locs hrM hB hS => ?_)
  rcases hrS with ⟨rfl, hp, hC1⟩ | ⟨rfl, hp, hC1⟩
  · rcases hrM with ⟨rfl, hq, hR1⟩ | ⟨rfl, hq, hR1⟩
    · refine lv_icmp_eq (tgt := 655) hx hb dL_law_136 (by decide) (fun _ => ?_) (fun h => absurd rfl h)
      exact W.widen (k := cells + 1) (n := slots + 6) (Nat.le_succ _) (Nat.le_add_right _ 6) (kk _ M1 R1 g _ _ _ hC1 hR1 hB hS (lv_sub hl [0, 1, 2, 3, 4] rfl))
    · exact absurd hp hq
  · rcases hrM with ⟨rfl, hq, hR1⟩ | ⟨rfl, hq, hR1⟩
    · exact absurd hq hp
    · refine lv_icmp_eq (tgt := 655) hx hb dL_law_136 (by decide) (fun _ => ?_) (fun h => absurd rfl h)
      exact W.widen (k := cells + 1) (n := slots + 6) (Nat.le_succ _) (Nat.le_add_right _ 6) (kk _ M1 R1 g _ _ _ hC1 hR1 hB hS (lv_sub hl [0, 1, 2, 3, 4] rfl))
set_option maxHeartbeats 4000000 in
set_option maxRecDepth 100000 in
theorem lc_clear {p : Program} {l : Launch} {e : Env} {s : State} {m : MethodId} {below : List Frame} {meth : Method} {c : Code} {b L : Nat} {xs : Nat → Int32} {D : va_G} {cs : Nat → ClassId} {o oM oL : Nat} (hF : lwF p l s m c b L xs D cs o oM oL) {i : Nat} (hi : i + 6 ≤ L) {A : Ab} {M : Nat → Nat → Int32} {R0 : Nat → mRow} {g : Nat → Int64} {H : Heap} {locs : List Loc} {cells slots : Nat} {Q : State → Prop} {ls : Array Slot} (hC : Cls A M) (hR : Ref A R0) (hB : lwB D cs o oM oL M R0 g H) (hS : va_S (gA s.heap.size) s.heap H locs) (hl : lv_has ls 7 [(0, .ref b), (1, .ref o), (2, .ref oM), (3, .ref oL), (4, .int (nI i))]) (hcl : cells + 1 ≤ room_1.cells) (hsl : slots + 6 ≤ room_1.slots) (kk : lwK p l e s m below meth c b D cs o oM oL i cells slots Q) : W p l e room_1 s m #[Value.ref b] below meth c H locs cells slots Q (F0 m 141 ls []) := by
  obtain ⟨hx, hb, hml, hown, hts, hX, hbl, hL, hE, hthr, hsZ, hl0, ho, hoM, hoL⟩ := hF
  have hA : aOk A := hC.1
  refine lv_aload_n hx hb dL_law_141 rfl (lv_at hl 1 rfl) ?_
  refine lw_Sv ho hoM hoL hB (bc_runV (own := RL) (C := RS) (As := []) (rest := []) hx hb (hml.trans hl.1.symm) hown hts (kS_clear l D cs (ca o) (ca_I o 162) M H.size A hC ) w_149 w_146 w_147 w_148 w_1 ⟨rfl, hd_S_clear⟩ rfl ⟨rfl, rfl⟩ ⟨Nat.le_of_ble_eq_true rfl, Nat.le_of_ble_eq_true rfl⟩ (fun _ _ _ _ h => h.calling) (bc_recv (r := (RS, TS, 14)) hE hB.1 0 (by decide) rfl rfl) (fun U hU hW => ⟨by rw [hU], by rw [hU]; exact hB.1, hE.warm hW⟩) rfl (Nat.le_of_ble_eq_true rfl) dL_law_142 ⟨Nat.le_of_succ_le hcl, Nat.le_trans (Nat.le_add_right _ 6) hsl⟩) hS (fun M1 H locs hrS hB hS => ?_)
  refine lv_aload_n hx hb dL_law_145 rfl (lv_at hl 2 rfl) ?_
  refine lw_Mv ho hoM hoL hB (bc_runV (own := RL) (C := RM) (As := []) (rest := []) hx hb (hml.trans hl.1.symm) hown hts (kM_clear l D cs (ca oM) (ca_I oM 13) R0 H.size A hA hR ) w_372 w_369 w_370 w_371 w_4 ⟨rfl, hd_M_clear⟩ rfl ⟨rfl, rfl⟩ ⟨Nat.le_of_ble_eq_true rfl, Nat.le_of_ble_eq_true rfl⟩ (fun _ _ _ _ h => h.calling) (bc_recv (r := (RM, TM, 14)) hE hB.2.1 0 (by decide) rfl rfl) (fun U hU hW => ⟨by rw [hU], by rw [hU]; exact hB.2.1, hE.warm hW⟩) rfl (Nat.le_of_ble_eq_true rfl) dL_law_146 ⟨Nat.le_of_succ_le hcl, Nat.le_trans (Nat.le_add_right _ 6) hsl⟩) hS (fun R1 H locs hrM hB hS => ?_)
  refine lv_goto (tgt := 655) hx hb dL_law_149 (by decide) ?_
  exact W.widen (k := cells + 1) (n := slots + 6) (Nat.le_succ _) (Nat.le_add_right _ 6) (kk _ M1 R1 g _ _ _ hrS hrM hB hS (lv_sub hl [0, 1, 2, 3, 4] rfl))
set_option maxHeartbeats 4000000 in
set_option maxRecDepth 100000 in
theorem lc_set {p : Program} {l : Launch} {e : Env} {s : State} {m : MethodId} {below : List Frame} {meth : Method} {c : Code} {b L : Nat} {xs : Nat → Int32} {D : va_G} {cs : Nat → ClassId} {o oM oL : Nat} (hF : lwF p l s m c b L xs D cs o oM oL) {i : Nat} (hi : i + 6 ≤ L) {A : Ab} {M : Nat → Nat → Int32} {R0 : Nat → mRow} {g : Nat → Int64} {H : Heap} {locs : List Loc} {cells slots : Nat} {Q : State → Prop} {ls : Array Slot} (hC : Cls A M) (hR : Ref A R0) (hB : lwB D cs o oM oL M R0 g H) (hS : va_S (gA s.heap.size) s.heap H locs) (hl : lv_has ls 7 [(0, .ref b), (1, .ref o), (2, .ref oM), (3, .ref oL), (4, .int (nI i))]) (hcl : cells + 1 ≤ room_1.cells) (hsl : slots + 6 ≤ room_1.slots) (kk : lwK p l e s m below meth c b D cs o oM oL i cells slots Q) : W p l e room_1 s m #[Value.ref b] below meth c H locs cells slots Q (F0 m 152 ls []) := by
  obtain ⟨hx, hb, hml, hown, hts, hX, hbl, hL, hE, hthr, hsZ, hl0, ho, hoM, hoL⟩ := hF
  have hA : aOk A := hC.1
  refine lv_aload_n hx hb dL_law_152 rfl (lv_at hl 1 rfl) ?_
  refine lv_aload_n hx hb dL_law_153 rfl (lv_at hl 0 rfl) ?_
  refine lv_iload hx hb dL_law_154 (lv_at hl 4 rfl) ?_
  refine lv_iconst (v := nI 1) hx hb dL_law_156 (by decide) ?_
  refine ln_iadd hx hb dL_law_157 ?_
  refine lw_sld hx hb hX hbl hL hS (by omega) dL_law_158 ?_
  refine lv_aload_n hx hb dL_law_159 rfl (lv_at hl 0 rfl) ?_
  refine lv_iload hx hb dL_law_160 (lv_at hl 4 rfl) ?_
  refine lv_iconst (v := nI 2) hx hb dL_law_162 (by decide) ?_
  refine ln_iadd hx hb dL_law_163 ?_
  refine lw_sld hx hb hX hbl hL hS (by omega) dL_law_164 ?_
  refine lv_aload_n hx hb dL_law_165 rfl (lv_at hl 0 rfl) ?_
  refine lv_iload hx hb dL_law_166 (lv_at hl 4 rfl) ?_
  refine lv_iconst (v := nI 3) hx hb dL_law_168 (by decide) ?_
  refine ln_iadd hx hb dL_law_169 ?_
  refine lw_sld hx hb hX hbl hL hS (by omega) dL_law_170 ?_
  refine lv_aload_n hx hb dL_law_171 rfl (lv_at hl 0 rfl) ?_
  refine lv_iload hx hb dL_law_172 (lv_at hl 4 rfl) ?_
  refine lv_iconst (v := nI 4) hx hb dL_law_174 (by decide) ?_
  refine ln_iadd hx hb dL_law_175 ?_
  refine lw_sld hx hb hX hbl hL hS (by omega) dL_law_176 ?_
  refine lv_aload_n hx hb dL_law_177 rfl (lv_at hl 0 rfl) ?_
  refine lv_iload hx hb dL_law_178 (lv_at hl 4 rfl) ?_
  refine lv_iconst (v := nI 5) hx hb dL_law_180 (by decide) ?_
  refine ln_iadd hx hb dL_law_181 ?_
  refine lw_sld hx hb hX hbl hL hS (by omega) dL_law_182 ?_
  refine lw_Si ho hoM hoL hB (bc_runV (own := RL) (C := RS) (As := [.int (xs (i + 1)), .int (xs (i + 2)), .int (xs (i + 3)), .int (xs (i + 4)), .int (xs (i + 5))]) (rest := []) hx hb (hml.trans hl.1.symm) hown hts (kS_set l D cs (ca o) (ca_I o 162) M H.size A hC (xs (i + 1)) (xs (i + 2)) (xs (i + 3)) (xs (i + 4)) (xs (i + 5))) w_153 w_150 w_151 w_152 w_1 ⟨rfl, hd_S_set⟩ rfl ⟨rfl, rfl⟩ ⟨Nat.le_of_ble_eq_true rfl, Nat.le_of_ble_eq_true rfl⟩ (fun _ _ _ _ h => h.calling) (bc_recv (r := (RS, TS, 14)) hE hB.1 0 (by decide) rfl rfl) (fun U hU hW => ⟨by rw [hU], by rw [hU]; exact hB.1, hE.warm hW⟩) rfl (Nat.le_of_ble_eq_true rfl) dL_law_183 ⟨Nat.le_of_succ_le hcl, Nat.le_trans (Nat.le_add_right _ 6) hsl⟩) hS (fun rS M1 H locs hrS hB hS => ?_)
  refine lv_aload_n hx hb dL_law_186 rfl (lv_at hl 2 rfl) ?_
  refine lv_aload_n hx hb dL_law_187 rfl (lv_at hl 0 rfl) ?_
  refine lv_iload hx hb dL_law_188 (lv_at hl 4 rfl) ?_
  refine lv_iconst (v := nI 1) hx hb dL_law_190 (by decide) ?_
  refine ln_iadd hx hb dL_law_191 ?_
  refine lw_sld hx hb hX hbl hL hS (by omega) dL_law_192 ?_
  refine lv_aload_n hx hb dL_law_193 rfl (lv_at hl 0 rfl) ?_
  refine lv_iload hx hb dL_law_194 (lv_at hl 4 rfl) ?_
  refine lv_iconst (v := nI 2) hx hb dL_law_196 (by decide) ?_
  refine ln_iadd hx hb dL_law_197 ?_
  refine lw_sld hx hb hX hbl hL hS (by omega) dL_law_198 ?_
  refine lv_aload_n hx hb dL_law_199 rfl (lv_at hl 0 rfl) ?_
  refine lv_iload hx hb dL_law_200 (lv_at hl 4 rfl) ?_
  refine lv_iconst (v := nI 3) hx hb dL_law_202 (by decide) ?_
  refine ln_iadd hx hb dL_law_203 ?_
  refine lw_sld hx hb hX hbl hL hS (by omega) dL_law_204 ?_
  refine lv_aload_n hx hb dL_law_205 rfl (lv_at hl 0 rfl) ?_
  refine lv_iload hx hb dL_law_206 (lv_at hl 4 rfl) ?_
  refine lv_iconst (v := nI 4) hx hb dL_law_208 (by decide) ?_
  refine ln_iadd hx hb dL_law_209 ?_
  refine lw_sld hx hb hX hbl hL hS (by omega) dL_law_210 ?_
  refine lv_aload_n hx hb dL_law_211 rfl (lv_at hl 0 rfl) ?_
  refine lv_iload hx hb dL_law_212 (lv_at hl 4 rfl) ?_
  refine lv_iconst (v := nI 5) hx hb dL_law_214 (by decide) ?_
  refine ln_iadd hx hb dL_law_215 ?_
  refine lw_sld hx hb hX hbl hL hS (by omega) dL_law_216 ?_
  refine lw_Mi ho hoM hoL hB (bc_runV (own := RL) (C := RM) (As := [.int (xs (i + 1)), .int (xs (i + 2)), .int (xs (i + 3)), .int (xs (i + 4)), .int (xs (i + 5))]) (rest := [.int rS]) hx hb (hml.trans hl.1.symm) hown hts (kM_set l D cs (ca oM) (ca_I oM 13) R0 H.size A hA hR (xs (i + 1)) (xs (i + 2)) (xs (i + 3)) (xs (i + 4)) (xs (i + 5))) w_376 w_373 w_374 w_375 w_4 ⟨rfl, hd_M_set⟩ rfl ⟨rfl, rfl⟩ ⟨Nat.le_of_ble_eq_true rfl, Nat.le_of_ble_eq_true rfl⟩ (fun _ _ _ _ h => h.calling) (bc_recv (r := (RM, TM, 14)) hE hB.2.1 0 (by decide) rfl rfl) (fun U hU hW => ⟨by rw [hU], by rw [hU]; exact hB.2.1, hE.warm hW⟩) rfl (Nat.le_of_ble_eq_true rfl) dL_law_217 ⟨Nat.le_of_succ_le hcl, Nat.le_trans (Nat.le_add_right _ 6) hsl⟩) hS (fun rM R1 H locs hrM hB hS => ?_)
  rcases hrS with ⟨rfl, hp, hC1⟩ | ⟨rfl, hp, hC1⟩
  · rcases hrM with ⟨rfl, hq, hR1⟩ | ⟨rfl, hq, hR1⟩
    · refine lv_icmp_eq (tgt := 655) hx hb dL_law_220 (by decide) (fun _ => ?_) (fun h => absurd rfl h)
      exact W.widen (k := cells + 1) (n := slots + 6) (Nat.le_succ _) (Nat.le_add_right _ 6) (kk _ M1 R1 g _ _ _ hC1 hR1 hB hS (lv_sub hl [0, 1, 2, 3, 4] rfl))
    · exact absurd hp hq
  · rcases hrM with ⟨rfl, hq, hR1⟩ | ⟨rfl, hq, hR1⟩
    · exact absurd hq hp
    · refine lv_icmp_eq (tgt := 655) hx hb dL_law_220 (by decide) (fun _ => ?_) (fun h => absurd rfl h)
      exact W.widen (k := cells + 1) (n := slots + 6) (Nat.le_succ _) (Nat.le_add_right _ 6) (kk _ M1 R1 g _ _ _ hC1 hR1 hB hS (lv_sub hl [0, 1, 2, 3, 4] rfl))
set_option maxHeartbeats 4000000 in
set_option maxRecDepth 100000 in
theorem lc_hang {p : Program} {l : Launch} {e : Env} {s : State} {m : MethodId} {below : List Frame} {meth : Method} {c : Code} {b L : Nat} {xs : Nat → Int32} {D : va_G} {cs : Nat → ClassId} {o oM oL : Nat} (hF : lwF p l s m c b L xs D cs o oM oL) {i : Nat} (hi : i + 6 ≤ L) {A : Ab} {M : Nat → Nat → Int32} {R0 : Nat → mRow} {g : Nat → Int64} {H : Heap} {locs : List Loc} {cells slots : Nat} {Q : State → Prop} {ls : Array Slot} (hC : Cls A M) (hR : Ref A R0) (hB : lwB D cs o oM oL M R0 g H) (hS : va_S (gA s.heap.size) s.heap H locs) (hl : lv_has ls 7 [(0, .ref b), (1, .ref o), (2, .ref oM), (3, .ref oL), (4, .int (nI i))]) (hcl : cells + 1 ≤ room_1.cells) (hsl : slots + 6 ≤ room_1.slots) (kk : lwK p l e s m below meth c b D cs o oM oL i cells slots Q) : W p l e room_1 s m #[Value.ref b] below meth c H locs cells slots Q (F0 m 225 ls []) := by
  obtain ⟨hx, hb, hml, hown, hts, hX, hbl, hL, hE, hthr, hsZ, hl0, ho, hoM, hoL⟩ := hF
  have hA : aOk A := hC.1
  refine lv_aload_n hx hb dL_law_225 rfl (lv_at hl 1 rfl) ?_
  refine lv_aload_n hx hb dL_law_226 rfl (lv_at hl 0 rfl) ?_
  refine lv_iload hx hb dL_law_227 (lv_at hl 4 rfl) ?_
  refine lv_iconst (v := nI 1) hx hb dL_law_229 (by decide) ?_
  refine ln_iadd hx hb dL_law_230 ?_
  refine lw_sld hx hb hX hbl hL hS (by omega) dL_law_231 ?_
  refine lv_aload_n hx hb dL_law_232 rfl (lv_at hl 0 rfl) ?_
  refine lv_iload hx hb dL_law_233 (lv_at hl 4 rfl) ?_
  refine lv_iconst (v := nI 2) hx hb dL_law_235 (by decide) ?_
  refine ln_iadd hx hb dL_law_236 ?_
  refine lw_sld hx hb hX hbl hL hS (by omega) dL_law_237 ?_
  refine lw_Si ho hoM hoL hB (bc_runV (own := RL) (C := RS) (As := [.int (xs (i + 1)), .int (xs (i + 2))]) (rest := []) hx hb (hml.trans hl.1.symm) hown hts (kS_hang l D cs (ca o) (ca_I o 162) M H.size A hC (xs (i + 1)) (xs (i + 2))) w_172 w_169 w_170 w_171 w_1 ⟨rfl, hd_S_hang⟩ rfl ⟨rfl, rfl⟩ ⟨Nat.le_of_ble_eq_true rfl, Nat.le_of_ble_eq_true rfl⟩ (fun _ _ _ _ h => h.calling) (bc_recv (r := (RS, TS, 14)) hE hB.1 0 (by decide) rfl rfl) (fun U hU hW => ⟨by rw [hU], by rw [hU]; exact hB.1, hE.warm hW⟩) rfl (Nat.le_of_ble_eq_true rfl) dL_law_238 ⟨Nat.le_of_succ_le hcl, Nat.le_trans (Nat.le_add_right _ 6) hsl⟩) hS (fun rS M1 H locs hrS hB hS => ?_)
  refine lv_aload_n hx hb dL_law_241 rfl (lv_at hl 2 rfl) ?_
  refine lv_aload_n hx hb dL_law_242 rfl (lv_at hl 0 rfl) ?_
  refine lv_iload hx hb dL_law_243 (lv_at hl 4 rfl) ?_
  refine lv_iconst (v := nI 1) hx hb dL_law_245 (by decide) ?_
  refine ln_iadd hx hb dL_law_246 ?_
  refine lw_sld hx hb hX hbl hL hS (by omega) dL_law_247 ?_
  refine lv_aload_n hx hb dL_law_248 rfl (lv_at hl 0 rfl) ?_
  refine lv_iload hx hb dL_law_249 (lv_at hl 4 rfl) ?_
  refine lv_iconst (v := nI 2) hx hb dL_law_251 (by decide) ?_
  refine ln_iadd hx hb dL_law_252 ?_
  refine lw_sld hx hb hX hbl hL hS (by omega) dL_law_253 ?_
  refine lw_Mi ho hoM hoL hB (bc_runV (own := RL) (C := RM) (As := [.int (xs (i + 1)), .int (xs (i + 2))]) (rest := [.int rS]) hx hb (hml.trans hl.1.symm) hown hts (kM_hang l D cs (ca oM) (ca_I oM 13) R0 H.size A hA hR (xs (i + 1)) (xs (i + 2))) w_393 w_390 w_391 w_392 w_4 ⟨rfl, hd_M_hang⟩ rfl ⟨rfl, rfl⟩ ⟨Nat.le_of_ble_eq_true rfl, Nat.le_of_ble_eq_true rfl⟩ (fun _ _ _ _ h => h.calling) (bc_recv (r := (RM, TM, 14)) hE hB.2.1 0 (by decide) rfl rfl) (fun U hU hW => ⟨by rw [hU], by rw [hU]; exact hB.2.1, hE.warm hW⟩) rfl (Nat.le_of_ble_eq_true rfl) dL_law_254 ⟨Nat.le_of_succ_le hcl, Nat.le_trans (Nat.le_add_right _ 6) hsl⟩) hS (fun rM R1 H locs hrM hB hS => ?_)
  rcases hrS with ⟨rfl, hp, hC1⟩ | ⟨rfl, hp, hC1⟩
  · rcases hrM with ⟨rfl, hq, hR1⟩ | ⟨rfl, hq, hR1⟩
    · refine lv_icmp_eq (tgt := 655) hx hb dL_law_257 (by decide) (fun _ => ?_) (fun h => absurd rfl h)
      exact W.widen (k := cells + 1) (n := slots + 6) (Nat.le_succ _) (Nat.le_add_right _ 6) (kk _ M1 R1 g _ _ _ hC1 hR1 hB hS (lv_sub hl [0, 1, 2, 3, 4] rfl))
    · exact absurd hp hq
  · rcases hrM with ⟨rfl, hq, hR1⟩ | ⟨rfl, hq, hR1⟩
    · exact absurd hq hp
    · refine lv_icmp_eq (tgt := 655) hx hb dL_law_257 (by decide) (fun _ => ?_) (fun h => absurd rfl h)
      exact W.widen (k := cells + 1) (n := slots + 6) (Nat.le_succ _) (Nat.le_add_right _ 6) (kk _ M1 R1 g _ _ _ hC1 hR1 hB hS (lv_sub hl [0, 1, 2, 3, 4] rfl))
set_option maxHeartbeats 4000000 in
set_option maxRecDepth 100000 in
theorem lc_hide {p : Program} {l : Launch} {e : Env} {s : State} {m : MethodId} {below : List Frame} {meth : Method} {c : Code} {b L : Nat} {xs : Nat → Int32} {D : va_G} {cs : Nat → ClassId} {o oM oL : Nat} (hF : lwF p l s m c b L xs D cs o oM oL) {i : Nat} (hi : i + 6 ≤ L) {A : Ab} {M : Nat → Nat → Int32} {R0 : Nat → mRow} {g : Nat → Int64} {H : Heap} {locs : List Loc} {cells slots : Nat} {Q : State → Prop} {ls : Array Slot} (hC : Cls A M) (hR : Ref A R0) (hB : lwB D cs o oM oL M R0 g H) (hS : va_S (gA s.heap.size) s.heap H locs) (hl : lv_has ls 7 [(0, .ref b), (1, .ref o), (2, .ref oM), (3, .ref oL), (4, .int (nI i))]) (hcl : cells + 1 ≤ room_1.cells) (hsl : slots + 6 ≤ room_1.slots) (kk : lwK p l e s m below meth c b D cs o oM oL i cells slots Q) : W p l e room_1 s m #[Value.ref b] below meth c H locs cells slots Q (F0 m 262 ls []) := by
  obtain ⟨hx, hb, hml, hown, hts, hX, hbl, hL, hE, hthr, hsZ, hl0, ho, hoM, hoL⟩ := hF
  have hA : aOk A := hC.1
  refine lv_aload_n hx hb dL_law_262 rfl (lv_at hl 1 rfl) ?_
  refine lv_aload_n hx hb dL_law_263 rfl (lv_at hl 0 rfl) ?_
  refine lv_iload hx hb dL_law_264 (lv_at hl 4 rfl) ?_
  refine lv_iconst (v := nI 1) hx hb dL_law_266 (by decide) ?_
  refine ln_iadd hx hb dL_law_267 ?_
  refine lw_sld hx hb hX hbl hL hS (by omega) dL_law_268 ?_
  refine lv_aload_n hx hb dL_law_269 rfl (lv_at hl 0 rfl) ?_
  refine lv_iload hx hb dL_law_270 (lv_at hl 4 rfl) ?_
  refine lv_iconst (v := nI 2) hx hb dL_law_272 (by decide) ?_
  refine ln_iadd hx hb dL_law_273 ?_
  refine lw_sld hx hb hX hbl hL hS (by omega) dL_law_274 ?_
  refine lv_if_eq (tgt := 282) hx hb dL_law_275 (by decide) (fun c1 => ?_) (fun c1 => ?_)
  · skip
    refine lv_iconst (v := nI 0) hx hb dL_law_282 (by decide) ?_
    refine lw_Si ho hoM hoL hB (bc_runV (own := RL) (C := RS) (As := [.int (xs (i + 1)), .int (nI 0)]) (rest := []) hx hb (hml.trans hl.1.symm) hown hts (kS_hide l D cs (ca o) (ca_I o 162) M H.size A hC (xs (i + 1)) (nI 0)) w_176 w_173 w_174 w_175 w_1 ⟨rfl, hd_S_hide⟩ rfl ⟨rfl, rfl⟩ ⟨Nat.le_of_ble_eq_true rfl, Nat.le_of_ble_eq_true rfl⟩ (fun _ _ _ _ h => h.calling) (bc_recv (r := (RS, TS, 14)) hE hB.1 0 (by decide) rfl rfl) (fun U hU hW => ⟨by rw [hU], by rw [hU]; exact hB.1, hE.warm hW⟩) rfl (Nat.le_of_ble_eq_true rfl) dL_law_283 ⟨Nat.le_of_succ_le hcl, Nat.le_trans (Nat.le_add_right _ 6) hsl⟩) hS (fun rS M1 H locs hrS hB hS => ?_)
    refine lv_aload_n hx hb dL_law_286 rfl (lv_at hl 2 rfl) ?_
    refine lv_aload_n hx hb dL_law_287 rfl (lv_at hl 0 rfl) ?_
    refine lv_iload hx hb dL_law_288 (lv_at hl 4 rfl) ?_
    refine lv_iconst (v := nI 1) hx hb dL_law_290 (by decide) ?_
    refine ln_iadd hx hb dL_law_291 ?_
    refine lw_sld hx hb hX hbl hL hS (by omega) dL_law_292 ?_
    refine lv_aload_n hx hb dL_law_293 rfl (lv_at hl 0 rfl) ?_
    refine lv_iload hx hb dL_law_294 (lv_at hl 4 rfl) ?_
    refine lv_iconst (v := nI 2) hx hb dL_law_296 (by decide) ?_
    refine ln_iadd hx hb dL_law_297 ?_
    refine lw_sld hx hb hX hbl hL hS (by omega) dL_law_298 ?_
    refine lv_if_eq (tgt := 306) hx hb dL_law_299 (by decide) (fun _ => ?_) (fun c2 => absurd c1 c2)
    refine lv_iconst (v := nI 0) hx hb dL_law_306 (by decide) ?_
    refine lw_Mi ho hoM hoL hB (bc_runV (own := RL) (C := RM) (As := [.int (xs (i + 1)), .int (nI 0)]) (rest := [.int rS]) hx hb (hml.trans hl.1.symm) hown hts (kM_hide l D cs (ca oM) (ca_I oM 13) R0 H.size A hA hR (xs (i + 1)) (nI 0)) w_397 w_394 w_395 w_396 w_4 ⟨rfl, hd_M_hide⟩ rfl ⟨rfl, rfl⟩ ⟨Nat.le_of_ble_eq_true rfl, Nat.le_of_ble_eq_true rfl⟩ (fun _ _ _ _ h => h.calling) (bc_recv (r := (RM, TM, 14)) hE hB.2.1 0 (by decide) rfl rfl) (fun U hU hW => ⟨by rw [hU], by rw [hU]; exact hB.2.1, hE.warm hW⟩) rfl (Nat.le_of_ble_eq_true rfl) dL_law_307 ⟨Nat.le_of_succ_le hcl, Nat.le_trans (Nat.le_add_right _ 6) hsl⟩) hS (fun rM R1 H locs hrM hB hS => ?_)
    rcases hrS with ⟨rfl, hp, hC1⟩ | ⟨rfl, hp, hC1⟩
    · rcases hrM with ⟨rfl, hq, hR1⟩ | ⟨rfl, hq, hR1⟩
      · refine lv_icmp_eq (tgt := 655) hx hb dL_law_310 (by decide) (fun _ => ?_) (fun h => absurd rfl h)
        exact W.widen (k := cells + 1) (n := slots + 6) (Nat.le_succ _) (Nat.le_add_right _ 6) (kk _ M1 R1 g _ _ _ hC1 hR1 hB hS (lv_sub hl [0, 1, 2, 3, 4] rfl))
      · exact absurd hp hq
    · rcases hrM with ⟨rfl, hq, hR1⟩ | ⟨rfl, hq, hR1⟩
      · exact absurd hq hp
      · refine lv_icmp_eq (tgt := 655) hx hb dL_law_310 (by decide) (fun _ => ?_) (fun h => absurd rfl h)
        exact W.widen (k := cells + 1) (n := slots + 6) (Nat.le_succ _) (Nat.le_add_right _ 6) (kk _ M1 R1 g _ _ _ hC1 hR1 hB hS (lv_sub hl [0, 1, 2, 3, 4] rfl))
  · skip
    refine lv_iconst (v := nI 1) hx hb dL_law_278 (by decide) ?_
    refine lv_goto (tgt := 283) hx hb dL_law_279 (by decide) ?_
    refine lw_Si ho hoM hoL hB (bc_runV (own := RL) (C := RS) (As := [.int (xs (i + 1)), .int (nI 1)]) (rest := []) hx hb (hml.trans hl.1.symm) hown hts (kS_hide l D cs (ca o) (ca_I o 162) M H.size A hC (xs (i + 1)) (nI 1)) w_176 w_173 w_174 w_175 w_1 ⟨rfl, hd_S_hide⟩ rfl ⟨rfl, rfl⟩ ⟨Nat.le_of_ble_eq_true rfl, Nat.le_of_ble_eq_true rfl⟩ (fun _ _ _ _ h => h.calling) (bc_recv (r := (RS, TS, 14)) hE hB.1 0 (by decide) rfl rfl) (fun U hU hW => ⟨by rw [hU], by rw [hU]; exact hB.1, hE.warm hW⟩) rfl (Nat.le_of_ble_eq_true rfl) dL_law_283 ⟨Nat.le_of_succ_le hcl, Nat.le_trans (Nat.le_add_right _ 6) hsl⟩) hS (fun rS M1 H locs hrS hB hS => ?_)
    refine lv_aload_n hx hb dL_law_286 rfl (lv_at hl 2 rfl) ?_
    refine lv_aload_n hx hb dL_law_287 rfl (lv_at hl 0 rfl) ?_
    refine lv_iload hx hb dL_law_288 (lv_at hl 4 rfl) ?_
    refine lv_iconst (v := nI 1) hx hb dL_law_290 (by decide) ?_
    refine ln_iadd hx hb dL_law_291 ?_
    refine lw_sld hx hb hX hbl hL hS (by omega) dL_law_292 ?_
    refine lv_aload_n hx hb dL_law_293 rfl (lv_at hl 0 rfl) ?_
    refine lv_iload hx hb dL_law_294 (lv_at hl 4 rfl) ?_
    refine lv_iconst (v := nI 2) hx hb dL_law_296 (by decide) ?_
    refine ln_iadd hx hb dL_law_297 ?_
    refine lw_sld hx hb hX hbl hL hS (by omega) dL_law_298 ?_
    refine lv_if_eq (tgt := 306) hx hb dL_law_299 (by decide) (fun c2 => absurd c2 c1) (fun _ => ?_)
    refine lv_iconst (v := nI 1) hx hb dL_law_302 (by decide) ?_
    refine lv_goto (tgt := 307) hx hb dL_law_303 (by decide) ?_
    refine lw_Mi ho hoM hoL hB (bc_runV (own := RL) (C := RM) (As := [.int (xs (i + 1)), .int (nI 1)]) (rest := [.int rS]) hx hb (hml.trans hl.1.symm) hown hts (kM_hide l D cs (ca oM) (ca_I oM 13) R0 H.size A hA hR (xs (i + 1)) (nI 1)) w_397 w_394 w_395 w_396 w_4 ⟨rfl, hd_M_hide⟩ rfl ⟨rfl, rfl⟩ ⟨Nat.le_of_ble_eq_true rfl, Nat.le_of_ble_eq_true rfl⟩ (fun _ _ _ _ h => h.calling) (bc_recv (r := (RM, TM, 14)) hE hB.2.1 0 (by decide) rfl rfl) (fun U hU hW => ⟨by rw [hU], by rw [hU]; exact hB.2.1, hE.warm hW⟩) rfl (Nat.le_of_ble_eq_true rfl) dL_law_307 ⟨Nat.le_of_succ_le hcl, Nat.le_trans (Nat.le_add_right _ 6) hsl⟩) hS (fun rM R1 H locs hrM hB hS => ?_)
    rcases hrS with ⟨rfl, hp, hC1⟩ | ⟨rfl, hp, hC1⟩
    · rcases hrM with ⟨rfl, hq, hR1⟩ | ⟨rfl, hq, hR1⟩
      · refine lv_icmp_eq (tgt := 655) hx hb dL_law_310 (by decide) (fun _ => ?_) (fun h => absurd rfl h)
        exact W.widen (k := cells + 1) (n := slots + 6) (Nat.le_succ _) (Nat.le_add_right _ 6) (kk _ M1 R1 g _ _ _ hC1 hR1 hB hS (lv_sub hl [0, 1, 2, 3, 4] rfl))
      · exact absurd hp hq
    · rcases hrM with ⟨rfl, hq, hR1⟩ | ⟨rfl, hq, hR1⟩
      · exact absurd hq hp
      · refine lv_icmp_eq (tgt := 655) hx hb dL_law_310 (by decide) (fun _ => ?_) (fun h => absurd rfl h)
        exact W.widen (k := cells + 1) (n := slots + 6) (Nat.le_succ _) (Nat.le_add_right _ 6) (kk _ M1 R1 g _ _ _ hC1 hR1 hB hS (lv_sub hl [0, 1, 2, 3, 4] rfl))
set_option maxHeartbeats 4000000 in
set_option maxRecDepth 100000 in
theorem lc_camera {p : Program} {l : Launch} {e : Env} {s : State} {m : MethodId} {below : List Frame} {meth : Method} {c : Code} {b L : Nat} {xs : Nat → Int32} {D : va_G} {cs : Nat → ClassId} {o oM oL : Nat} (hF : lwF p l s m c b L xs D cs o oM oL) {i : Nat} (hi : i + 6 ≤ L) {A : Ab} {M : Nat → Nat → Int32} {R0 : Nat → mRow} {g : Nat → Int64} {H : Heap} {locs : List Loc} {cells slots : Nat} {Q : State → Prop} {ls : Array Slot} (hC : Cls A M) (hR : Ref A R0) (hB : lwB D cs o oM oL M R0 g H) (hS : va_S (gA s.heap.size) s.heap H locs) (hl : lv_has ls 7 [(0, .ref b), (1, .ref o), (2, .ref oM), (3, .ref oL), (4, .int (nI i))]) (hcl : cells + 1 ≤ room_1.cells) (hsl : slots + 6 ≤ room_1.slots) (kk : lwK p l e s m below meth c b D cs o oM oL i cells slots Q) : W p l e room_1 s m #[Value.ref b] below meth c H locs cells slots Q (F0 m 315 ls []) := by
  obtain ⟨hx, hb, hml, hown, hts, hX, hbl, hL, hE, hthr, hsZ, hl0, ho, hoM, hoL⟩ := hF
  have hA : aOk A := hC.1
  refine lv_aload_n hx hb dL_law_315 rfl (lv_at hl 1 rfl) ?_
  refine lv_aload_n hx hb dL_law_316 rfl (lv_at hl 0 rfl) ?_
  refine lv_iload hx hb dL_law_317 (lv_at hl 4 rfl) ?_
  refine lv_iconst (v := nI 1) hx hb dL_law_319 (by decide) ?_
  refine ln_iadd hx hb dL_law_320 ?_
  refine lw_sld hx hb hX hbl hL hS (by omega) dL_law_321 ?_
  refine lv_aload_n hx hb dL_law_322 rfl (lv_at hl 0 rfl) ?_
  refine lv_iload hx hb dL_law_323 (lv_at hl 4 rfl) ?_
  refine lv_iconst (v := nI 2) hx hb dL_law_325 (by decide) ?_
  refine ln_iadd hx hb dL_law_326 ?_
  refine lw_sld hx hb hX hbl hL hS (by omega) dL_law_327 ?_
  refine lv_aload_n hx hb dL_law_328 rfl (lv_at hl 0 rfl) ?_
  refine lv_iload hx hb dL_law_329 (lv_at hl 4 rfl) ?_
  refine lv_iconst (v := nI 3) hx hb dL_law_331 (by decide) ?_
  refine ln_iadd hx hb dL_law_332 ?_
  refine lw_sld hx hb hX hbl hL hS (by omega) dL_law_333 ?_
  refine lv_aload_n hx hb dL_law_334 rfl (lv_at hl 0 rfl) ?_
  refine lv_iload hx hb dL_law_335 (lv_at hl 4 rfl) ?_
  refine lv_iconst (v := nI 4) hx hb dL_law_337 (by decide) ?_
  refine ln_iadd hx hb dL_law_338 ?_
  refine lw_sld hx hb hX hbl hL hS (by omega) dL_law_339 ?_
  refine lw_Si ho hoM hoL hB (bc_runV (own := RL) (C := RS) (As := [.int (xs (i + 1)), .int (xs (i + 2)), .int (xs (i + 3)), .int (xs (i + 4))]) (rest := []) hx hb (hml.trans hl.1.symm) hown hts (kS_camera l D cs (ca o) (ca_I o 162) M H.size A hC (xs (i + 1)) (xs (i + 2)) (xs (i + 3)) (xs (i + 4))) w_180 w_177 w_178 w_179 w_1 ⟨rfl, hd_S_camera⟩ rfl ⟨rfl, rfl⟩ ⟨Nat.le_of_ble_eq_true rfl, Nat.le_of_ble_eq_true rfl⟩ (fun _ _ _ _ h => h.calling) (bc_recv (r := (RS, TS, 14)) hE hB.1 0 (by decide) rfl rfl) (fun U hU hW => ⟨by rw [hU], by rw [hU]; exact hB.1, hE.warm hW⟩) rfl (Nat.le_of_ble_eq_true rfl) dL_law_340 ⟨Nat.le_of_succ_le hcl, Nat.le_trans (Nat.le_add_right _ 6) hsl⟩) hS (fun rS M1 H locs hrS hB hS => ?_)
  refine lv_aload_n hx hb dL_law_343 rfl (lv_at hl 2 rfl) ?_
  refine lv_aload_n hx hb dL_law_344 rfl (lv_at hl 0 rfl) ?_
  refine lv_iload hx hb dL_law_345 (lv_at hl 4 rfl) ?_
  refine lv_iconst (v := nI 1) hx hb dL_law_347 (by decide) ?_
  refine ln_iadd hx hb dL_law_348 ?_
  refine lw_sld hx hb hX hbl hL hS (by omega) dL_law_349 ?_
  refine lv_aload_n hx hb dL_law_350 rfl (lv_at hl 0 rfl) ?_
  refine lv_iload hx hb dL_law_351 (lv_at hl 4 rfl) ?_
  refine lv_iconst (v := nI 2) hx hb dL_law_353 (by decide) ?_
  refine ln_iadd hx hb dL_law_354 ?_
  refine lw_sld hx hb hX hbl hL hS (by omega) dL_law_355 ?_
  refine lv_aload_n hx hb dL_law_356 rfl (lv_at hl 0 rfl) ?_
  refine lv_iload hx hb dL_law_357 (lv_at hl 4 rfl) ?_
  refine lv_iconst (v := nI 3) hx hb dL_law_359 (by decide) ?_
  refine ln_iadd hx hb dL_law_360 ?_
  refine lw_sld hx hb hX hbl hL hS (by omega) dL_law_361 ?_
  refine lv_aload_n hx hb dL_law_362 rfl (lv_at hl 0 rfl) ?_
  refine lv_iload hx hb dL_law_363 (lv_at hl 4 rfl) ?_
  refine lv_iconst (v := nI 4) hx hb dL_law_365 (by decide) ?_
  refine ln_iadd hx hb dL_law_366 ?_
  refine lw_sld hx hb hX hbl hL hS (by omega) dL_law_367 ?_
  refine lw_Mi ho hoM hoL hB (bc_runV (own := RL) (C := RM) (As := [.int (xs (i + 1)), .int (xs (i + 2)), .int (xs (i + 3)), .int (xs (i + 4))]) (rest := [.int rS]) hx hb (hml.trans hl.1.symm) hown hts (kM_camera l D cs (ca oM) (ca_I oM 13) R0 H.size A hA hR (xs (i + 1)) (xs (i + 2)) (xs (i + 3)) (xs (i + 4))) w_401 w_398 w_399 w_400 w_4 ⟨rfl, hd_M_camera⟩ rfl ⟨rfl, rfl⟩ ⟨Nat.le_of_ble_eq_true rfl, Nat.le_of_ble_eq_true rfl⟩ (fun _ _ _ _ h => h.calling) (bc_recv (r := (RM, TM, 14)) hE hB.2.1 0 (by decide) rfl rfl) (fun U hU hW => ⟨by rw [hU], by rw [hU]; exact hB.2.1, hE.warm hW⟩) rfl (Nat.le_of_ble_eq_true rfl) dL_law_368 ⟨Nat.le_of_succ_le hcl, Nat.le_trans (Nat.le_add_right _ 6) hsl⟩) hS (fun rM R1 H locs hrM hB hS => ?_)
  rcases hrS with ⟨rfl, hp, hC1⟩ | ⟨rfl, hp, hC1⟩
  · rcases hrM with ⟨rfl, hq, hR1⟩ | ⟨rfl, hq, hR1⟩
    · refine lv_icmp_eq (tgt := 655) hx hb dL_law_371 (by decide) (fun _ => ?_) (fun h => absurd rfl h)
      exact W.widen (k := cells + 1) (n := slots + 6) (Nat.le_succ _) (Nat.le_add_right _ 6) (kk _ M1 R1 g _ _ _ hC1 hR1 hB hS (lv_sub hl [0, 1, 2, 3, 4] rfl))
    · exact absurd hp hq
  · rcases hrM with ⟨rfl, hq, hR1⟩ | ⟨rfl, hq, hR1⟩
    · exact absurd hq hp
    · refine lv_icmp_eq (tgt := 655) hx hb dL_law_371 (by decide) (fun _ => ?_) (fun h => absurd rfl h)
      exact W.widen (k := cells + 1) (n := slots + 6) (Nat.le_succ _) (Nat.le_add_right _ 6) (kk _ M1 R1 g _ _ _ hC1 hR1 hB hS (lv_sub hl [0, 1, 2, 3, 4] rfl))
set_option maxHeartbeats 4000000 in
set_option maxRecDepth 100000 in
theorem lc_world {p : Program} {l : Launch} {e : Env} {s : State} {m : MethodId} {below : List Frame} {meth : Method} {c : Code} {b L : Nat} {xs : Nat → Int32} {D : va_G} {cs : Nat → ClassId} {o oM oL : Nat} (hF : lwF p l s m c b L xs D cs o oM oL) {i : Nat} (hi : i + 6 ≤ L) {A : Ab} {M : Nat → Nat → Int32} {R0 : Nat → mRow} {g : Nat → Int64} {H : Heap} {locs : List Loc} {cells slots : Nat} {Q : State → Prop} {ls : Array Slot} (hC : Cls A M) (hR : Ref A R0) (hB : lwB D cs o oM oL M R0 g H) (hS : va_S (gA s.heap.size) s.heap H locs) (hl : lv_has ls 7 [(0, .ref b), (1, .ref o), (2, .ref oM), (3, .ref oL), (4, .int (nI i))]) (hcl : cells + 1 ≤ room_1.cells) (hsl : slots + 6 ≤ room_1.slots) (kk : lwK p l e s m below meth c b D cs o oM oL i cells slots Q) : W p l e room_1 s m #[Value.ref b] below meth c H locs cells slots Q (F0 m 376 ls []) := by
  obtain ⟨hx, hb, hml, hown, hts, hX, hbl, hL, hE, hthr, hsZ, hl0, ho, hoM, hoL⟩ := hF
  have hA : aOk A := hC.1
  refine lv_aload_n hx hb dL_law_376 rfl (lv_at hl 1 rfl) ?_
  refine lv_aload_n hx hb dL_law_377 rfl (lv_at hl 0 rfl) ?_
  refine lv_iload hx hb dL_law_378 (lv_at hl 4 rfl) ?_
  refine lv_iconst (v := nI 1) hx hb dL_law_380 (by decide) ?_
  refine ln_iadd hx hb dL_law_381 ?_
  refine lw_sld hx hb hX hbl hL hS (by omega) dL_law_382 ?_
  refine lv_aload_n hx hb dL_law_383 rfl (lv_at hl 0 rfl) ?_
  refine lv_iload hx hb dL_law_384 (lv_at hl 4 rfl) ?_
  refine lv_iconst (v := nI 2) hx hb dL_law_386 (by decide) ?_
  refine ln_iadd hx hb dL_law_387 ?_
  refine lw_sld hx hb hX hbl hL hS (by omega) dL_law_388 ?_
  refine lv_aload_n hx hb dL_law_389 rfl (lv_at hl 0 rfl) ?_
  refine lv_iload hx hb dL_law_390 (lv_at hl 4 rfl) ?_
  refine lv_iconst (v := nI 3) hx hb dL_law_392 (by decide) ?_
  refine ln_iadd hx hb dL_law_393 ?_
  refine lw_sld hx hb hX hbl hL hS (by omega) dL_law_394 ?_
  refine lv_aload_n hx hb dL_law_395 rfl (lv_at hl 3 rfl) ?_
  refine lw_Hi ho hoM hoL hB (bx_runSW (own := RL) (As := [.ref o, .int (xs (i + 1)), .int (xs (i + 2)), .int (xs (i + 3)), .ref oL]) (rest := []) hx hb (hml.trans hl.1.symm) hown hts (kL_world l hl0 D cs (ca o) (ca_I o 162) M H.size A hC (xs (i + 1)) (xs (i + 2)) (xs (i + 3)) oL (ne_oL hoM hoL) g) w_226 w_224 w_225 w_0 hd_L_world rfl ⟨rfl, rfl⟩ ⟨Nat.le_of_ble_eq_true rfl, Nat.le_of_ble_eq_true rfl⟩ (fun _ _ _ _ h => h.calling) (fun U hU hW => ⟨⟨⟨by rw [hU], by rw [hU]; exact hB.1, hE.warm hW⟩, hthr.warm hW, sZ.law hU hW ho hS hsZ⟩, by rw [hU]; exact hB.2.2⟩) rfl (Nat.le_of_ble_eq_true rfl) dL_law_396 ⟨hcl, hsl⟩) hS (fun rS M1 g1 H locs hrS hB hS => ?_)
  obtain ⟨hC1, hrS⟩ := hrS
  refine lv_istore (lv' := [(5, .int rS), (0, .ref b), (1, .ref o), (2, .ref oM), (3, .ref oL), (4, .int (nI i))]) hx hb dL_law_399 hl (by decide) rfl (fun ls hl => ?_)
  refine lv_aload_n hx hb dL_law_401 rfl (lv_at hl 3 rfl) ?_
  refine lv_aload_n hx hb dL_law_402 rfl (lv_at hl 1 rfl) ?_
  refine lv_iload hx hb dL_law_403 (lv_at hl 5 rfl) ?_
  refine lv_iconst (v := nI 1) hx hb dL_law_405 (by decide) ?_
  refine ln_iadd hx hb dL_law_406 ?_
  refine lw_sld hx hb hX hbl hL hS (by omega) dL_law_407 ?_
  refine lv_aload_n hx hb dL_law_408 rfl (lv_at hl 1 rfl) ?_
  refine lv_iload hx hb dL_law_409 (lv_at hl 5 rfl) ?_
  refine lv_iconst (v := nI 2) hx hb dL_law_411 (by decide) ?_
  refine ln_iadd hx hb dL_law_412 ?_
  refine lw_sld hx hb hX hbl hL hS (by omega) dL_law_413 ?_
  refine lv_aload_n hx hb dL_law_414 rfl (lv_at hl 1 rfl) ?_
  refine lv_iload hx hb dL_law_415 (lv_at hl 5 rfl) ?_
  refine lv_iconst (v := nI 3) hx hb dL_law_417 (by decide) ?_
  refine ln_iadd hx hb dL_law_418 ?_
  refine lw_sld hx hb hX hbl hL hS (by omega) dL_law_419 ?_
  refine lw_Mi ho hoM hoL hB (bc_runV (own := RL) (C := RM) (As := [.int (xs (i + 1)), .int (xs (i + 2)), .int (xs (i + 3))]) (rest := []) hx hb (hml.trans hl.1.symm) hown hts (kM_world l D cs (ca oM) (ca_I oM 13) R0 H.size A hA hR (xs (i + 1)) (xs (i + 2)) (xs (i + 3))) w_405 w_402 w_403 w_404 w_4 ⟨rfl, hd_M_world⟩ rfl ⟨rfl, rfl⟩ ⟨Nat.le_of_ble_eq_true rfl, Nat.le_of_ble_eq_true rfl⟩ (fun _ _ _ _ h => h.calling) (bc_recv (r := (RM, TM, 14)) hE hB.2.1 0 (by decide) rfl rfl) (fun U hU hW => ⟨by rw [hU], by rw [hU]; exact hB.2.1, hE.warm hW⟩) rfl (Nat.le_of_ble_eq_true rfl) dL_law_420 ⟨hcl, hsl⟩) hS (fun rM R1 H locs hrM hB hS => ?_)
  refine lv_istore (lv' := [(6, .int rM), (5, .int rS), (0, .ref b), (1, .ref o), (2, .ref oM), (3, .ref oL), (4, .int (nI i))]) hx hb dL_law_423 hl (by decide) rfl (fun ls hl => ?_)
  refine lv_aload_n hx hb dL_law_425 rfl (lv_at hl 4 rfl) ?_
  refine vp_callSi (va_Run.run (bc_runV (own := RL) (C := RM) (As := []) (rest := []) hx hb (hml.trans hl.1.symm) hown hts (kM_thrown l D cs (ca oM) (ca_I oM 13) R1 H.size ) w_363 w_360 w_361 w_362 w_4 ⟨rfl, hd_M_thrown⟩ rfl ⟨rfl, rfl⟩ ⟨Nat.le_of_ble_eq_true rfl, Nat.le_of_ble_eq_true rfl⟩ (fun _ _ _ _ h => h.calling) (bc_recv (r := (RM, TM, 14)) hE hB.2.1 0 (by decide) rfl rfl) (fun U hU hW => ⟨by rw [hU], by rw [hU]; exact hB.2.1, hE.warm hW⟩) rfl (Nat.le_of_ble_eq_true rfl) dL_law_426 ⟨hcl, hsl⟩)) (fun rT hrT => ?_)
  refine lv_iload hx hb dL_law_429 (lv_at hl 1 rfl) ?_
  obtain ⟨hR1, hrM⟩ := hrM
  rcases hrS with ⟨hp, rfl, hg⟩ | ⟨hp, rfl⟩
  · rcases hrM with ⟨hq, ht, hv⟩ | ⟨hq, ht⟩
    · refine lv_icmp_eq (tgt := 436) hx hb dL_law_431 (by decide) (fun _ => ?_) (fun h => absurd (hrT.trans ht) h)
      refine lv_iload hx hb dL_law_436 (lv_at hl 1 rfl) ?_
      refine lv_if_ne (tgt := 453) hx hb dL_law_438 (by decide) (fun h => absurd rfl h) (fun _ => ?_)
      refine lv_aload_n hx hb dL_law_441 rfl (lv_at hl 5 rfl) ?_
      refine lv_iconst (v := nI 0) hx hb dL_law_442 (by decide) ?_
      refine va_lald hx hb hE.1 hB.2.2 0 3 rfl rfl (vp_in_nI (N := 1) (by decide) (by decide)) dL_law_443 ?_
      refine ln_asl rM.toInt64 (by rw [hv]; exact hg) ?_
      refine lv_iload hx hb dL_law_444 (lv_at hl 0 rfl) ?_
      refine lv_i2l (v := rM.toInt64) hx hb dL_law_446 rfl ?_
      refine W.lcmp hx hb dL_law_447 ?_
      refine ln_asi 0 (lg_cmp_self _) ?_
      refine lv_if_eq (tgt := 453) hx hb dL_law_448 (by decide) (fun _ => ?_) (fun h => absurd rfl h)
      refine lv_goto (tgt := 655) hx hb dL_law_453 (by decide) ?_
      exact kk A M1 R1 g1 _ _ _ hC1 hR1 hB hS (lv_sub hl [2, 3, 4, 5, 6] rfl)
    · exact absurd hp hq
  · rcases hrM with ⟨hq, ht, hv⟩ | ⟨hq, ht⟩
    · exact absurd hq hp
    · refine lv_icmp_eq (tgt := 436) hx hb dL_law_431 (by decide) (fun _ => ?_) (fun h => absurd (hrT.trans ht) h)
      refine lv_iload hx hb dL_law_436 (lv_at hl 1 rfl) ?_
      refine lv_if_ne (tgt := 453) hx hb dL_law_438 (by decide) (fun _ => ?_) (fun h => absurd h (by decide))
      refine lv_goto (tgt := 655) hx hb dL_law_453 (by decide) ?_
      exact kk A M1 R1 g1 _ _ _ hC1 hR1 hB hS (lv_sub hl [2, 3, 4, 5, 6] rfl)
set_option maxHeartbeats 4000000 in
set_option maxRecDepth 100000 in
theorem lc_model {p : Program} {l : Launch} {e : Env} {s : State} {m : MethodId} {below : List Frame} {meth : Method} {c : Code} {b L : Nat} {xs : Nat → Int32} {D : va_G} {cs : Nat → ClassId} {o oM oL : Nat} (hF : lwF p l s m c b L xs D cs o oM oL) {i : Nat} (hi : i + 6 ≤ L) {A : Ab} {M : Nat → Nat → Int32} {R0 : Nat → mRow} {g : Nat → Int64} {H : Heap} {locs : List Loc} {cells slots : Nat} {Q : State → Prop} {ls : Array Slot} (hC : Cls A M) (hR : Ref A R0) (hB : lwB D cs o oM oL M R0 g H) (hS : va_S (gA s.heap.size) s.heap H locs) (hl : lv_has ls 7 [(0, .ref b), (1, .ref o), (2, .ref oM), (3, .ref oL), (4, .int (nI i))]) (hcl : cells + 1 ≤ room_1.cells) (hsl : slots + 6 ≤ room_1.slots) (kk : lwK p l e s m below meth c b D cs o oM oL i cells slots Q) : W p l e room_1 s m #[Value.ref b] below meth c H locs cells slots Q (F0 m 456 ls []) := by
  obtain ⟨hx, hb, hml, hown, hts, hX, hbl, hL, hE, hthr, hsZ, hl0, ho, hoM, hoL⟩ := hF
  have hA : aOk A := hC.1
  refine lv_aload_n hx hb dL_law_456 rfl (lv_at hl 1 rfl) ?_
  refine lv_aload_n hx hb dL_law_457 rfl (lv_at hl 0 rfl) ?_
  refine lv_iload hx hb dL_law_458 (lv_at hl 4 rfl) ?_
  refine lv_iconst (v := nI 1) hx hb dL_law_460 (by decide) ?_
  refine ln_iadd hx hb dL_law_461 ?_
  refine lw_sld hx hb hX hbl hL hS (by omega) dL_law_462 ?_
  refine lv_aload_n hx hb dL_law_463 rfl (lv_at hl 0 rfl) ?_
  refine lv_iload hx hb dL_law_464 (lv_at hl 4 rfl) ?_
  refine lv_iconst (v := nI 2) hx hb dL_law_466 (by decide) ?_
  refine ln_iadd hx hb dL_law_467 ?_
  refine lw_sld hx hb hX hbl hL hS (by omega) dL_law_468 ?_
  refine lv_aload_n hx hb dL_law_469 rfl (lv_at hl 0 rfl) ?_
  refine lv_iload hx hb dL_law_470 (lv_at hl 4 rfl) ?_
  refine lv_iconst (v := nI 3) hx hb dL_law_472 (by decide) ?_
  refine ln_iadd hx hb dL_law_473 ?_
  refine lw_sld hx hb hX hbl hL hS (by omega) dL_law_474 ?_
  refine lv_aload_n hx hb dL_law_475 rfl (lv_at hl 3 rfl) ?_
  refine lw_Hi ho hoM hoL hB (bx_runSW (own := RL) (As := [.ref o, .int (xs (i + 1)), .int (xs (i + 2)), .int (xs (i + 3)), .ref oL]) (rest := []) hx hb (hml.trans hl.1.symm) hown hts (kL_model l hl0 D cs (ca o) (ca_I o 162) M H.size A hC (xs (i + 1)) (xs (i + 2)) (xs (i + 3)) oL (ne_oL hoM hoL) g) w_298 w_296 w_297 w_0 hd_L_model rfl ⟨rfl, rfl⟩ ⟨Nat.le_of_ble_eq_true rfl, Nat.le_of_ble_eq_true rfl⟩ (fun _ _ _ _ h => h.calling) (fun U hU hW => ⟨⟨⟨by rw [hU], by rw [hU]; exact hB.1, hE.warm hW⟩, hthr.warm hW, sZ.law hU hW ho hS hsZ⟩, by rw [hU]; exact hB.2.2⟩) rfl (Nat.le_of_ble_eq_true rfl) dL_law_476 ⟨hcl, hsl⟩) hS (fun rS M1 g1 H locs hrS hB hS => ?_)
  obtain ⟨hC1, hrS⟩ := hrS
  refine lv_istore (lv' := [(5, .int rS), (0, .ref b), (1, .ref o), (2, .ref oM), (3, .ref oL), (4, .int (nI i))]) hx hb dL_law_479 hl (by decide) rfl (fun ls hl => ?_)
  refine lv_aload_n hx hb dL_law_481 rfl (lv_at hl 3 rfl) ?_
  refine lv_aload_n hx hb dL_law_482 rfl (lv_at hl 1 rfl) ?_
  refine lv_iload hx hb dL_law_483 (lv_at hl 5 rfl) ?_
  refine lv_iconst (v := nI 1) hx hb dL_law_485 (by decide) ?_
  refine ln_iadd hx hb dL_law_486 ?_
  refine lw_sld hx hb hX hbl hL hS (by omega) dL_law_487 ?_
  refine lv_aload_n hx hb dL_law_488 rfl (lv_at hl 1 rfl) ?_
  refine lv_iload hx hb dL_law_489 (lv_at hl 5 rfl) ?_
  refine lv_iconst (v := nI 2) hx hb dL_law_491 (by decide) ?_
  refine ln_iadd hx hb dL_law_492 ?_
  refine lw_sld hx hb hX hbl hL hS (by omega) dL_law_493 ?_
  refine lv_aload_n hx hb dL_law_494 rfl (lv_at hl 1 rfl) ?_
  refine lv_iload hx hb dL_law_495 (lv_at hl 5 rfl) ?_
  refine lv_iconst (v := nI 3) hx hb dL_law_497 (by decide) ?_
  refine ln_iadd hx hb dL_law_498 ?_
  refine lw_sld hx hb hX hbl hL hS (by omega) dL_law_499 ?_
  refine lw_Mi ho hoM hoL hB (bc_runV (own := RL) (C := RM) (As := [.int (xs (i + 1)), .int (xs (i + 2)), .int (xs (i + 3))]) (rest := []) hx hb (hml.trans hl.1.symm) hown hts (kM_model l D cs (ca oM) (ca_I oM 13) R0 H.size A hA hR (xs (i + 1)) (xs (i + 2)) (xs (i + 3))) w_453 w_450 w_451 w_452 w_4 ⟨rfl, hd_M_model⟩ rfl ⟨rfl, rfl⟩ ⟨Nat.le_of_ble_eq_true rfl, Nat.le_of_ble_eq_true rfl⟩ (fun _ _ _ _ h => h.calling) (bc_recv (r := (RM, TM, 14)) hE hB.2.1 0 (by decide) rfl rfl) (fun U hU hW => ⟨by rw [hU], by rw [hU]; exact hB.2.1, hE.warm hW⟩) rfl (Nat.le_of_ble_eq_true rfl) dL_law_500 ⟨hcl, hsl⟩) hS (fun rM R1 H locs hrM hB hS => ?_)
  refine lv_istore (lv' := [(6, .int rM), (5, .int rS), (0, .ref b), (1, .ref o), (2, .ref oM), (3, .ref oL), (4, .int (nI i))]) hx hb dL_law_503 hl (by decide) rfl (fun ls hl => ?_)
  refine lv_aload_n hx hb dL_law_505 rfl (lv_at hl 4 rfl) ?_
  refine vp_callSi (va_Run.run (bc_runV (own := RL) (C := RM) (As := []) (rest := []) hx hb (hml.trans hl.1.symm) hown hts (kM_thrown l D cs (ca oM) (ca_I oM 13) R1 H.size ) w_363 w_360 w_361 w_362 w_4 ⟨rfl, hd_M_thrown⟩ rfl ⟨rfl, rfl⟩ ⟨Nat.le_of_ble_eq_true rfl, Nat.le_of_ble_eq_true rfl⟩ (fun _ _ _ _ h => h.calling) (bc_recv (r := (RM, TM, 14)) hE hB.2.1 0 (by decide) rfl rfl) (fun U hU hW => ⟨by rw [hU], by rw [hU]; exact hB.2.1, hE.warm hW⟩) rfl (Nat.le_of_ble_eq_true rfl) dL_law_506 ⟨hcl, hsl⟩)) (fun rT hrT => ?_)
  refine lv_iload hx hb dL_law_509 (lv_at hl 1 rfl) ?_
  obtain ⟨hR1, hrM⟩ := hrM
  rcases hrS with ⟨hp, rfl, hg⟩ | ⟨hp, rfl⟩
  · rcases hrM with ⟨hq, ht, hv⟩ | ⟨hq, ht⟩
    · refine lv_icmp_eq (tgt := 516) hx hb dL_law_511 (by decide) (fun _ => ?_) (fun h => absurd (hrT.trans ht) h)
      refine lv_iload hx hb dL_law_516 (lv_at hl 1 rfl) ?_
      refine lv_if_ne (tgt := 533) hx hb dL_law_518 (by decide) (fun h => absurd rfl h) (fun _ => ?_)
      refine lv_aload_n hx hb dL_law_521 rfl (lv_at hl 5 rfl) ?_
      refine lv_iconst (v := nI 0) hx hb dL_law_522 (by decide) ?_
      refine va_lald hx hb hE.1 hB.2.2 0 3 rfl rfl (vp_in_nI (N := 1) (by decide) (by decide)) dL_law_523 ?_
      refine ln_asl rM.toInt64 (by rw [hv]; exact hg) ?_
      refine lv_iload hx hb dL_law_524 (lv_at hl 0 rfl) ?_
      refine lv_i2l (v := rM.toInt64) hx hb dL_law_526 rfl ?_
      refine W.lcmp hx hb dL_law_527 ?_
      refine ln_asi 0 (lg_cmp_self _) ?_
      refine lv_if_eq (tgt := 533) hx hb dL_law_528 (by decide) (fun _ => ?_) (fun h => absurd rfl h)
      refine lv_goto (tgt := 655) hx hb dL_law_533 (by decide) ?_
      exact kk A M1 R1 g1 _ _ _ hC1 hR1 hB hS (lv_sub hl [2, 3, 4, 5, 6] rfl)
    · exact absurd hp hq
  · rcases hrM with ⟨hq, ht, hv⟩ | ⟨hq, ht⟩
    · exact absurd hq hp
    · refine lv_icmp_eq (tgt := 516) hx hb dL_law_511 (by decide) (fun _ => ?_) (fun h => absurd (hrT.trans ht) h)
      refine lv_iload hx hb dL_law_516 (lv_at hl 1 rfl) ?_
      refine lv_if_ne (tgt := 533) hx hb dL_law_518 (by decide) (fun _ => ?_) (fun h => absurd h (by decide))
      refine lv_goto (tgt := 655) hx hb dL_law_533 (by decide) ?_
      exact kk A M1 R1 g1 _ _ _ hC1 hR1 hB hS (lv_sub hl [2, 3, 4, 5, 6] rfl)
set_option maxHeartbeats 4000000 in
set_option maxRecDepth 100000 in
theorem lc_seen {p : Program} {l : Launch} {e : Env} {s : State} {m : MethodId} {below : List Frame} {meth : Method} {c : Code} {b L : Nat} {xs : Nat → Int32} {D : va_G} {cs : Nat → ClassId} {o oM oL : Nat} (hF : lwF p l s m c b L xs D cs o oM oL) {i : Nat} (hi : i + 6 ≤ L) {A : Ab} {M : Nat → Nat → Int32} {R0 : Nat → mRow} {g : Nat → Int64} {H : Heap} {locs : List Loc} {cells slots : Nat} {Q : State → Prop} {ls : Array Slot} (hC : Cls A M) (hR : Ref A R0) (hB : lwB D cs o oM oL M R0 g H) (hS : va_S (gA s.heap.size) s.heap H locs) (hl : lv_has ls 7 [(0, .ref b), (1, .ref o), (2, .ref oM), (3, .ref oL), (4, .int (nI i))]) (hcl : cells + 1 ≤ room_1.cells) (hsl : slots + 6 ≤ room_1.slots) (kk : lwK p l e s m below meth c b D cs o oM oL i cells slots Q) : W p l e room_1 s m #[Value.ref b] below meth c H locs cells slots Q (F0 m 536 ls []) := by
  obtain ⟨hx, hb, hml, hown, hts, hX, hbl, hL, hE, hthr, hsZ, hl0, ho, hoM, hoL⟩ := hF
  have hA : aOk A := hC.1
  refine lv_aload_n hx hb dL_law_536 rfl (lv_at hl 1 rfl) ?_
  refine lw_Si ho hoM hoL hB (bc_runV (own := RL) (C := RS) (As := []) (rest := []) hx hb (hml.trans hl.1.symm) hown hts (kS_seen l D cs (ca o) (ca_I o 162) M H.size A hC ) w_184 w_181 w_182 w_183 w_1 ⟨rfl, hd_S_seen⟩ rfl ⟨rfl, rfl⟩ ⟨Nat.le_of_ble_eq_true rfl, Nat.le_of_ble_eq_true rfl⟩ (fun _ _ _ _ h => h.calling) (bc_recv (r := (RS, TS, 14)) hE hB.1 0 (by decide) rfl rfl) (fun U hU hW => ⟨by rw [hU], by rw [hU]; exact hB.1, hE.warm hW⟩) rfl (Nat.le_of_ble_eq_true rfl) dL_law_537 ⟨Nat.le_of_succ_le hcl, Nat.le_trans (Nat.le_add_right _ 6) hsl⟩) hS (fun rS M1 H locs hrS hB hS => ?_)
  refine lv_aload_n hx hb dL_law_540 rfl (lv_at hl 2 rfl) ?_
  refine lw_Mi ho hoM hoL hB (bc_runV (own := RL) (C := RM) (As := []) (rest := [.int rS]) hx hb (hml.trans hl.1.symm) hown hts (kM_seen l D cs (ca oM) (ca_I oM 13) R0 H.size A hA hR ) w_461 w_458 w_459 w_460 w_4 ⟨rfl, hd_M_seen⟩ rfl ⟨rfl, rfl⟩ ⟨Nat.le_of_ble_eq_true rfl, Nat.le_of_ble_eq_true rfl⟩ (fun _ _ _ _ h => h.calling) (bc_recv (r := (RM, TM, 14)) hE hB.2.1 0 (by decide) rfl rfl) (fun U hU hW => ⟨by rw [hU], by rw [hU]; exact hB.2.1, hE.warm hW⟩) rfl (Nat.le_of_ble_eq_true rfl) dL_law_541 ⟨Nat.le_of_succ_le hcl, Nat.le_trans (Nat.le_add_right _ 6) hsl⟩) hS (fun rM R1 H locs hrM hB hS => ?_)
  have e1 := hrS.1
  have e2 := hrM.1
  refine lv_icmp_eq (tgt := 655) hx hb dL_law_544 (by decide) (fun _ => ?_) (fun h => absurd (e1.trans e2.symm) h)
  exact W.widen (k := cells + 1) (n := slots + 6) (Nat.le_succ _) (Nat.le_add_right _ 6) (kk A M1 R1 g _ _ _ hrS.2 hrM.2 hB hS (lv_sub hl [0, 1, 2, 3, 4] rfl))
set_option maxHeartbeats 4000000 in
set_option maxRecDepth 100000 in
theorem lc_inOrder {p : Program} {l : Launch} {e : Env} {s : State} {m : MethodId} {below : List Frame} {meth : Method} {c : Code} {b L : Nat} {xs : Nat → Int32} {D : va_G} {cs : Nat → ClassId} {o oM oL : Nat} (hF : lwF p l s m c b L xs D cs o oM oL) {i : Nat} (hi : i + 6 ≤ L) {A : Ab} {M : Nat → Nat → Int32} {R0 : Nat → mRow} {g : Nat → Int64} {H : Heap} {locs : List Loc} {cells slots : Nat} {Q : State → Prop} {ls : Array Slot} (hC : Cls A M) (hR : Ref A R0) (hB : lwB D cs o oM oL M R0 g H) (hS : va_S (gA s.heap.size) s.heap H locs) (hl : lv_has ls 7 [(0, .ref b), (1, .ref o), (2, .ref oM), (3, .ref oL), (4, .int (nI i))]) (hcl : cells + 1 ≤ room_1.cells) (hsl : slots + 6 ≤ room_1.slots) (kk : lwK p l e s m below meth c b D cs o oM oL i cells slots Q) : W p l e room_1 s m #[Value.ref b] below meth c H locs cells slots Q (F0 m 549 ls []) := by
  obtain ⟨hx, hb, hml, hown, hts, hX, hbl, hL, hE, hthr, hsZ, hl0, ho, hoM, hoL⟩ := hF
  have hA : aOk A := hC.1
  refine lv_aload_n hx hb dL_law_549 rfl (lv_at hl 1 rfl) ?_
  refine lv_aload_n hx hb dL_law_550 rfl (lv_at hl 0 rfl) ?_
  refine lv_iload hx hb dL_law_551 (lv_at hl 4 rfl) ?_
  refine lv_iconst (v := nI 1) hx hb dL_law_553 (by decide) ?_
  refine ln_iadd hx hb dL_law_554 ?_
  refine lw_sld hx hb hX hbl hL hS (by omega) dL_law_555 ?_
  refine lw_Si ho hoM hoL hB (bc_runV (own := RL) (C := RS) (As := [.int (xs (i + 1))]) (rest := []) hx hb (hml.trans hl.1.symm) hown hts (kS_inOrder l D cs (ca o) (ca_I o 162) M H.size A hC (xs (i + 1))) w_196 w_193 w_194 w_195 w_1 ⟨rfl, hd_S_inOrder⟩ rfl ⟨rfl, rfl⟩ ⟨Nat.le_of_ble_eq_true rfl, Nat.le_of_ble_eq_true rfl⟩ (fun _ _ _ _ h => h.calling) (bc_recv (r := (RS, TS, 14)) hE hB.1 0 (by decide) rfl rfl) (fun U hU hW => ⟨by rw [hU], by rw [hU]; exact hB.1, hE.warm hW⟩) rfl (Nat.le_of_ble_eq_true rfl) dL_law_556 ⟨Nat.le_of_succ_le hcl, Nat.le_trans (Nat.le_add_right _ 6) hsl⟩) hS (fun rS M1 H locs hrS hB hS => ?_)
  refine lv_aload_n hx hb dL_law_559 rfl (lv_at hl 2 rfl) ?_
  refine lv_aload_n hx hb dL_law_560 rfl (lv_at hl 0 rfl) ?_
  refine lv_iload hx hb dL_law_561 (lv_at hl 4 rfl) ?_
  refine lv_iconst (v := nI 1) hx hb dL_law_563 (by decide) ?_
  refine ln_iadd hx hb dL_law_564 ?_
  refine lw_sld hx hb hX hbl hL hS (by omega) dL_law_565 ?_
  refine lw_Mi ho hoM hoL hB (bc_runV (own := RL) (C := RM) (As := [.int (xs (i + 1))]) (rest := [.int rS]) hx hb (hml.trans hl.1.symm) hown hts (kM_inOrder l D cs (ca oM) (ca_I oM 13) R0 H.size A hA hR (xs (i + 1))) w_469 w_466 w_467 w_468 w_4 ⟨rfl, hd_M_inOrder⟩ rfl ⟨rfl, rfl⟩ ⟨Nat.le_of_ble_eq_true rfl, Nat.le_of_ble_eq_true rfl⟩ (fun _ _ _ _ h => h.calling) (bc_recv (r := (RM, TM, 14)) hE hB.2.1 0 (by decide) rfl rfl) (fun U hU hW => ⟨by rw [hU], by rw [hU]; exact hB.2.1, hE.warm hW⟩) rfl (Nat.le_of_ble_eq_true rfl) dL_law_566 ⟨Nat.le_of_succ_le hcl, Nat.le_trans (Nat.le_add_right _ 6) hsl⟩) hS (fun rM R1 H locs hrM hB hS => ?_)
  have e1 := ord_eq hA hrS.1
  have e2 := hrM.1
  refine lv_icmp_eq (tgt := 655) hx hb dL_law_569 (by decide) (fun _ => ?_) (fun h => absurd (e1.trans e2.symm) h)
  exact W.widen (k := cells + 1) (n := slots + 6) (Nat.le_succ _) (Nat.le_add_right _ 6) (kk A M1 R1 g _ _ _ hrS.2 hrM.2 hB hS (lv_sub hl [0, 1, 2, 3, 4] rfl))
set_option maxHeartbeats 4000000 in
set_option maxRecDepth 100000 in
theorem lc_about {p : Program} {l : Launch} {e : Env} {s : State} {m : MethodId} {below : List Frame} {meth : Method} {c : Code} {b L : Nat} {xs : Nat → Int32} {D : va_G} {cs : Nat → ClassId} {o oM oL : Nat} (hF : lwF p l s m c b L xs D cs o oM oL) {i : Nat} (hi : i + 6 ≤ L) {A : Ab} {M : Nat → Nat → Int32} {R0 : Nat → mRow} {g : Nat → Int64} {H : Heap} {locs : List Loc} {cells slots : Nat} {Q : State → Prop} {ls : Array Slot} (hC : Cls A M) (hR : Ref A R0) (hB : lwB D cs o oM oL M R0 g H) (hS : va_S (gA s.heap.size) s.heap H locs) (hl : lv_has ls 7 [(0, .ref b), (1, .ref o), (2, .ref oM), (3, .ref oL), (4, .int (nI i))]) (hcl : cells + 1 ≤ room_1.cells) (hsl : slots + 6 ≤ room_1.slots) (kk : lwK p l e s m below meth c b D cs o oM oL i cells slots Q) : W p l e room_1 s m #[Value.ref b] below meth c H locs cells slots Q (F0 m 574 ls []) := by
  obtain ⟨hx, hb, hml, hown, hts, hX, hbl, hL, hE, hthr, hsZ, hl0, ho, hoM, hoL⟩ := hF
  have hA : aOk A := hC.1
  refine lv_aload_n hx hb dL_law_574 rfl (lv_at hl 1 rfl) ?_
  refine lv_aload_n hx hb dL_law_575 rfl (lv_at hl 0 rfl) ?_
  refine lv_iload hx hb dL_law_576 (lv_at hl 4 rfl) ?_
  refine lv_iconst (v := nI 1) hx hb dL_law_578 (by decide) ?_
  refine ln_iadd hx hb dL_law_579 ?_
  refine lw_sld hx hb hX hbl hL hS (by omega) dL_law_580 ?_
  refine lv_aload_n hx hb dL_law_581 rfl (lv_at hl 0 rfl) ?_
  refine lv_iload hx hb dL_law_582 (lv_at hl 4 rfl) ?_
  refine lv_iconst (v := nI 2) hx hb dL_law_584 (by decide) ?_
  refine ln_iadd hx hb dL_law_585 ?_
  refine lw_sld hx hb hX hbl hL hS (by omega) dL_law_586 ?_
  refine lv_aload_n hx hb dL_law_587 rfl (lv_at hl 3 rfl) ?_
  refine lw_Hi ho hoM hoL hB (bx_runSW (own := RL) (As := [.ref o, .int (xs (i + 1)), .int (xs (i + 2)), .ref oL]) (rest := []) hx hb (hml.trans hl.1.symm) hown hts (kL_about l hl0 D cs (ca o) (ca_I o 162) M H.size A hC (xs (i + 1)) (xs (i + 2)) oL (ne_oL hoM hoL) g) w_305 w_303 w_304 w_0 hd_L_about rfl ⟨rfl, rfl⟩ ⟨Nat.le_of_ble_eq_true rfl, Nat.le_of_ble_eq_true rfl⟩ (fun _ _ _ _ h => h.calling) (fun U hU hW => ⟨⟨⟨by rw [hU], by rw [hU]; exact hB.1, hE.warm hW⟩, hthr.warm hW, sZ.law hU hW ho hS hsZ⟩, by rw [hU]; exact hB.2.2⟩) rfl (Nat.le_of_ble_eq_true rfl) dL_law_588 ⟨hcl, hsl⟩) hS (fun rS M1 g1 H locs hrS hB hS => ?_)
  obtain ⟨hC1, hrS⟩ := hrS
  refine lv_istore (lv' := [(5, .int rS), (0, .ref b), (1, .ref o), (2, .ref oM), (3, .ref oL), (4, .int (nI i))]) hx hb dL_law_591 hl (by decide) rfl (fun ls hl => ?_)
  refine lv_aload_n hx hb dL_law_593 rfl (lv_at hl 3 rfl) ?_
  refine lv_aload_n hx hb dL_law_594 rfl (lv_at hl 1 rfl) ?_
  refine lv_iload hx hb dL_law_595 (lv_at hl 5 rfl) ?_
  refine lv_iconst (v := nI 1) hx hb dL_law_597 (by decide) ?_
  refine ln_iadd hx hb dL_law_598 ?_
  refine lw_sld hx hb hX hbl hL hS (by omega) dL_law_599 ?_
  refine lv_aload_n hx hb dL_law_600 rfl (lv_at hl 1 rfl) ?_
  refine lv_iload hx hb dL_law_601 (lv_at hl 5 rfl) ?_
  refine lv_iconst (v := nI 2) hx hb dL_law_603 (by decide) ?_
  refine ln_iadd hx hb dL_law_604 ?_
  refine lw_sld hx hb hX hbl hL hS (by omega) dL_law_605 ?_
  refine lw_Mi ho hoM hoL hB (bc_runV (own := RL) (C := RM) (As := [.int (xs (i + 1)), .int (xs (i + 2))]) (rest := []) hx hb (hml.trans hl.1.symm) hown hts (kM_about l D cs (ca oM) (ca_I oM 13) R0 H.size A hA hR (xs (i + 1)) (xs (i + 2))) w_477 w_474 w_475 w_476 w_4 ⟨rfl, hd_M_about⟩ rfl ⟨rfl, rfl⟩ ⟨Nat.le_of_ble_eq_true rfl, Nat.le_of_ble_eq_true rfl⟩ (fun _ _ _ _ h => h.calling) (bc_recv (r := (RM, TM, 14)) hE hB.2.1 0 (by decide) rfl rfl) (fun U hU hW => ⟨by rw [hU], by rw [hU]; exact hB.2.1, hE.warm hW⟩) rfl (Nat.le_of_ble_eq_true rfl) dL_law_606 ⟨hcl, hsl⟩) hS (fun rM R1 H locs hrM hB hS => ?_)
  refine lv_istore (lv' := [(6, .int rM), (5, .int rS), (0, .ref b), (1, .ref o), (2, .ref oM), (3, .ref oL), (4, .int (nI i))]) hx hb dL_law_609 hl (by decide) rfl (fun ls hl => ?_)
  refine lv_aload_n hx hb dL_law_611 rfl (lv_at hl 4 rfl) ?_
  refine vp_callSi (va_Run.run (bc_runV (own := RL) (C := RM) (As := []) (rest := []) hx hb (hml.trans hl.1.symm) hown hts (kM_thrown l D cs (ca oM) (ca_I oM 13) R1 H.size ) w_363 w_360 w_361 w_362 w_4 ⟨rfl, hd_M_thrown⟩ rfl ⟨rfl, rfl⟩ ⟨Nat.le_of_ble_eq_true rfl, Nat.le_of_ble_eq_true rfl⟩ (fun _ _ _ _ h => h.calling) (bc_recv (r := (RM, TM, 14)) hE hB.2.1 0 (by decide) rfl rfl) (fun U hU hW => ⟨by rw [hU], by rw [hU]; exact hB.2.1, hE.warm hW⟩) rfl (Nat.le_of_ble_eq_true rfl) dL_law_612 ⟨hcl, hsl⟩)) (fun rT hrT => ?_)
  refine lv_iload hx hb dL_law_615 (lv_at hl 1 rfl) ?_
  obtain ⟨hR1, hrM⟩ := hrM
  rcases hrS with ⟨hp, rfl, hg⟩ | ⟨hp, rfl⟩
  · rcases hrM with ⟨hq, ht, hv⟩ | ⟨hq, ht⟩
    · refine lv_icmp_eq (tgt := 622) hx hb dL_law_617 (by decide) (fun _ => ?_) (fun h => absurd (hrT.trans ht) h)
      refine lv_iload hx hb dL_law_622 (lv_at hl 1 rfl) ?_
      refine lv_if_ne (tgt := 639) hx hb dL_law_624 (by decide) (fun h => absurd rfl h) (fun _ => ?_)
      refine lv_aload_n hx hb dL_law_627 rfl (lv_at hl 5 rfl) ?_
      refine lv_iconst (v := nI 0) hx hb dL_law_628 (by decide) ?_
      refine va_lald hx hb hE.1 hB.2.2 0 3 rfl rfl (vp_in_nI (N := 1) (by decide) (by decide)) dL_law_629 ?_
      refine ln_asl rM.toInt64 (by rw [hv]; exact hg) ?_
      refine lv_iload hx hb dL_law_630 (lv_at hl 0 rfl) ?_
      refine lv_i2l (v := rM.toInt64) hx hb dL_law_632 rfl ?_
      refine W.lcmp hx hb dL_law_633 ?_
      refine ln_asi 0 (lg_cmp_self _) ?_
      refine lv_if_eq (tgt := 639) hx hb dL_law_634 (by decide) (fun _ => ?_) (fun h => absurd rfl h)
      refine lv_goto (tgt := 655) hx hb dL_law_639 (by decide) ?_
      exact kk A M1 R1 g1 _ _ _ hC1 hR1 hB hS (lv_sub hl [2, 3, 4, 5, 6] rfl)
    · exact absurd hp hq
  · rcases hrM with ⟨hq, ht, hv⟩ | ⟨hq, ht⟩
    · exact absurd hq hp
    · refine lv_icmp_eq (tgt := 622) hx hb dL_law_617 (by decide) (fun _ => ?_) (fun h => absurd (hrT.trans ht) h)
      refine lv_iload hx hb dL_law_622 (lv_at hl 1 rfl) ?_
      refine lv_if_ne (tgt := 639) hx hb dL_law_624 (by decide) (fun _ => ?_) (fun h => absurd h (by decide))
      refine lv_goto (tgt := 655) hx hb dL_law_639 (by decide) ?_
      exact kk A M1 R1 g1 _ _ _ hC1 hR1 hB hS (lv_sub hl [2, 3, 4, 5, 6] rfl)
set_option maxHeartbeats 4000000 in
set_option maxRecDepth 100000 in
theorem lc_count {p : Program} {l : Launch} {e : Env} {s : State} {m : MethodId} {below : List Frame} {meth : Method} {c : Code} {b L : Nat} {xs : Nat → Int32} {D : va_G} {cs : Nat → ClassId} {o oM oL : Nat} (hF : lwF p l s m c b L xs D cs o oM oL) {i : Nat} (hi : i + 6 ≤ L) {A : Ab} {M : Nat → Nat → Int32} {R0 : Nat → mRow} {g : Nat → Int64} {H : Heap} {locs : List Loc} {cells slots : Nat} {Q : State → Prop} {ls : Array Slot} (hC : Cls A M) (hR : Ref A R0) (hB : lwB D cs o oM oL M R0 g H) (hS : va_S (gA s.heap.size) s.heap H locs) (hl : lv_has ls 7 [(0, .ref b), (1, .ref o), (2, .ref oM), (3, .ref oL), (4, .int (nI i))]) (hcl : cells + 1 ≤ room_1.cells) (hsl : slots + 6 ≤ room_1.slots) (kk : lwK p l e s m below meth c b D cs o oM oL i cells slots Q) : W p l e room_1 s m #[Value.ref b] below meth c H locs cells slots Q (F0 m 642 ls []) := by
  obtain ⟨hx, hb, hml, hown, hts, hX, hbl, hL, hE, hthr, hsZ, hl0, ho, hoM, hoL⟩ := hF
  have hA : aOk A := hC.1
  refine lv_aload_n hx hb dL_law_642 rfl (lv_at hl 1 rfl) ?_
  refine vp_callSi (va_Run.run (bc_runV (own := RL) (C := RS) (As := []) (rest := []) hx hb (hml.trans hl.1.symm) hown hts (kS_count l D cs (ca o) (ca_I o 162) M H.size A hC ) w_223 w_220 w_221 w_222 w_1 ⟨rfl, hd_S_count⟩ rfl ⟨rfl, rfl⟩ ⟨Nat.le_of_ble_eq_true rfl, Nat.le_of_ble_eq_true rfl⟩ (fun _ _ _ _ h => h.calling) (bc_recv (r := (RS, TS, 14)) hE hB.1 0 (by decide) rfl rfl) (fun U hU hW => ⟨by rw [hU], by rw [hU]; exact hB.1, hE.warm hW⟩) rfl (Nat.le_of_ble_eq_true rfl) dL_law_643 ⟨Nat.le_of_succ_le hcl, Nat.le_trans (Nat.le_add_right _ 6) hsl⟩)) (fun rS hrS => ?_)
  refine lv_aload_n hx hb dL_law_646 rfl (lv_at hl 2 rfl) ?_
  refine lw_Mi ho hoM hoL hB (bc_runV (own := RL) (C := RM) (As := []) (rest := [.int rS]) hx hb (hml.trans hl.1.symm) hown hts (kM_count l D cs (ca oM) (ca_I oM 13) R0 H.size A hA hR ) w_481 w_478 w_479 w_480 w_4 ⟨rfl, hd_M_count⟩ rfl ⟨rfl, rfl⟩ ⟨Nat.le_of_ble_eq_true rfl, Nat.le_of_ble_eq_true rfl⟩ (fun _ _ _ _ h => h.calling) (bc_recv (r := (RM, TM, 14)) hE hB.2.1 0 (by decide) rfl rfl) (fun U hU hW => ⟨by rw [hU], by rw [hU]; exact hB.2.1, hE.warm hW⟩) rfl (Nat.le_of_ble_eq_true rfl) dL_law_647 ⟨Nat.le_of_succ_le hcl, Nat.le_trans (Nat.le_add_right _ 6) hsl⟩) hS (fun rM R1 H locs hrM hB hS => ?_)
  have e1 := hrS
  have e2 := hrM.1
  refine lv_icmp_eq (tgt := 655) hx hb dL_law_650 (by decide) (fun _ => ?_) (fun h => absurd (e1.trans e2.symm) h)
  exact W.widen (k := cells + 1) (n := slots + 6) (Nat.le_succ _) (Nat.le_add_right _ 6) (kk A M R1 g _ _ _ hC hrM.2 hB hS (lv_sub hl [0, 1, 2, 3, 4] rfl))
