/-! rows over numbers that are counted (nI), and over arrays at such places -/
section LN
variable {p : Program} {l : Launch} {e : Env} {R : Room} {s : State} {m : MethodId} {args : Array Value} {below : List Frame} {meth : Method} {c : Code} {H : Heap} {locs : List Loc} {cells slots : Nat} {Q : State → Prop}
variable {cc : ByteArray} {pc : Nat} {ls : Array Slot} {rest : List Value} {D : va_G} {tys : List (ClassId × FieldType)} {ad : Nat → Nat} {n : Nat}
theorem ln_iadd (hx : p.tables.exec = Jvm.exec) (hb : c.code = cc) {a b : Nat} (hdg : decode cc pc = .ok (.iadd, 1)) (k : W p l e R s m args below meth c H locs cells slots Q (F0 m (pc + 1) ls (.int (nI (a + b)) :: rest))) : W p l e R s m args below meth c H locs cells slots Q (F0 m pc ls (.int (nI b) :: .int (nI a) :: rest)) := by
  refine lv_iadd hx hb hdg ?_
  rw [nI_add]
  exact k
theorem ln_imul (hx : p.tables.exec = Jvm.exec) (hb : c.code = cc) {a b : Nat} (hdg : decode cc pc = .ok (.imul, 1)) (k : W p l e R s m args below meth c H locs cells slots Q (F0 m (pc + 1) ls (.int (nI (a * b)) :: rest))) : W p l e R s m args below meth c H locs cells slots Q (F0 m pc ls (.int (nI b) :: .int (nI a) :: rest)) := by
  refine lv_imul hx hb hdg ?_
  rw [pk_mul]
  exact k
theorem ln_isub (hx : p.tables.exec = Jvm.exec) (hb : c.code = cc) {a b : Nat} (hdg : decode cc pc = .ok (.isub, 1)) (h : b ≤ a) (k : W p l e R s m args below meth c H locs cells slots Q (F0 m (pc + 1) ls (.int (nI (a - b)) :: rest))) : W p l e R s m args below meth c H locs cells slots Q (F0 m pc ls (.int (nI b) :: .int (nI a) :: rest)) := by
  refine lv_isub hx hb hdg ?_
  rw [pk_sub h]
  exact k
theorem ln_icmp_ge (hx : p.tables.exec = Jvm.exec) (hb : c.code = cc) {x y : Nat} {off : Int} {tgt : Nat} (hdg : decode cc pc = .ok (.if_icmp .ge off, 3)) (ht : (pc : Int) + off = (tgt : Int)) (h1 : x < 2147483648) (h2 : y < 2147483648) (kt : y ≤ x → W p l e R s m args below meth c H locs cells slots Q (F0 m tgt ls rest)) (kf : x < y → W p l e R s m args below meth c H locs cells slots Q (F0 m (pc + 3) ls rest)) : W p l e R s m args below meth c H locs cells slots Q (F0 m pc ls (.int (nI y) :: .int (nI x) :: rest)) :=
  lv_icmp_ge hx hb hdg ht (fun q => kt ((nI_leI h2 h1).mp q)) (fun q => kf (Nat.not_le.mp (fun z => q ((nI_leI h2 h1).mpr z))))
theorem ln_icmp_lt (hx : p.tables.exec = Jvm.exec) (hb : c.code = cc) {x y : Nat} {off : Int} {tgt : Nat} (hdg : decode cc pc = .ok (.if_icmp .lt off, 3)) (ht : (pc : Int) + off = (tgt : Int)) (h1 : x < 2147483648) (h2 : y < 2147483648) (kt : x < y → W p l e R s m args below meth c H locs cells slots Q (F0 m tgt ls rest)) (kf : y ≤ x → W p l e R s m args below meth c H locs cells slots Q (F0 m (pc + 3) ls rest)) : W p l e R s m args below meth c H locs cells slots Q (F0 m pc ls (.int (nI y) :: .int (nI x) :: rest)) :=
  lv_icmp_lt hx hb hdg ht (fun q => kt ((nI_ltI h1 h2).mp q)) (fun q => kf (Nat.not_lt.mp (fun z => q ((nI_ltI h1 h2).mpr z))))
theorem ln_icmp_gt (hx : p.tables.exec = Jvm.exec) (hb : c.code = cc) {x y : Nat} {off : Int} {tgt : Nat} (hdg : decode cc pc = .ok (.if_icmp .gt off, 3)) (ht : (pc : Int) + off = (tgt : Int)) (h1 : x < 2147483648) (h2 : y < 2147483648) (kt : y < x → W p l e R s m args below meth c H locs cells slots Q (F0 m tgt ls rest)) (kf : x ≤ y → W p l e R s m args below meth c H locs cells slots Q (F0 m (pc + 3) ls rest)) : W p l e R s m args below meth c H locs cells slots Q (F0 m pc ls (.int (nI y) :: .int (nI x) :: rest)) :=
  lv_icmp_gt hx hb hdg ht (fun q => kt ((nI_ltI h2 h1).mp q)) (fun q => kf (Nat.not_lt.mp (fun z => q ((nI_ltI h2 h1).mpr z))))
theorem ln_icmp_le (hx : p.tables.exec = Jvm.exec) (hb : c.code = cc) {x y : Nat} {off : Int} {tgt : Nat} (hdg : decode cc pc = .ok (.if_icmp .le off, 3)) (ht : (pc : Int) + off = (tgt : Int)) (h1 : x < 2147483648) (h2 : y < 2147483648) (kt : x ≤ y → W p l e R s m args below meth c H locs cells slots Q (F0 m tgt ls rest)) (kf : y < x → W p l e R s m args below meth c H locs cells slots Q (F0 m (pc + 3) ls rest)) : W p l e R s m args below meth c H locs cells slots Q (F0 m pc ls (.int (nI y) :: .int (nI x) :: rest)) :=
  lv_icmp_le hx hb hdg ht (fun q => kt ((nI_leI h1 h2).mp q)) (fun q => kf (Nat.not_le.mp (fun z => q ((nI_leI h1 h2).mpr z))))
theorem ln_icmp_eq (hx : p.tables.exec = Jvm.exec) (hb : c.code = cc) {x y : Nat} {off : Int} {tgt : Nat} (hdg : decode cc pc = .ok (.if_icmp .eq off, 3)) (ht : (pc : Int) + off = (tgt : Int)) (h1 : x < 2147483648) (h2 : y < 2147483648) (kt : x = y → W p l e R s m args below meth c H locs cells slots Q (F0 m tgt ls rest)) (kf : x ≠ y → W p l e R s m args below meth c H locs cells slots Q (F0 m (pc + 3) ls rest)) : W p l e R s m args below meth c H locs cells slots Q (F0 m pc ls (.int (nI y) :: .int (nI x) :: rest)) :=
  lv_icmp_eq hx hb hdg ht (fun q => kt ((nI_eq h1 h2).mp q)) (fun q => kf (fun z => q ((nI_eq h1 h2).mpr z)))
theorem ln_icmp_ne (hx : p.tables.exec = Jvm.exec) (hb : c.code = cc) {x y : Nat} {off : Int} {tgt : Nat} (hdg : decode cc pc = .ok (.if_icmp .ne off, 3)) (ht : (pc : Int) + off = (tgt : Int)) (h1 : x < 2147483648) (h2 : y < 2147483648) (kt : x ≠ y → W p l e R s m args below meth c H locs cells slots Q (F0 m tgt ls rest)) (kf : x = y → W p l e R s m args below meth c H locs cells slots Q (F0 m (pc + 3) ls rest)) : W p l e R s m args below meth c H locs cells slots Q (F0 m pc ls (.int (nI y) :: .int (nI x) :: rest)) :=
  lv_icmp_ne hx hb hdg ht (fun q => kt (fun z => q ((nI_eq h1 h2).mpr z))) (fun q => kf ((nI_eq h1 h2).mp q))
theorem ln_iald {f : Nat → va_E} (hx : p.tables.exec = Jvm.exec) (hb : c.code = cc) (hE : bE D tys s) (hP : va_P D cls3 (bw ad n f) H) (q t0 : Nat) (hq : q < n) {cA : ClassId} {L : Nat} {g : Nat → Int32} (hf : f q = .inl (cA, L, .inl g)) (ht : tys[t0]? = some (cA, .int)) {i : Nat} (hi : i < L) (hL : L < 2147483648) (hdg : decode cc pc = .ok (.iaload, 1))
    (kk : W p l e R s m args below meth c H locs cells slots Q (F0 m (pc + 1) ls (.int (g i) :: rest))) : W p l e R s m args below meth c H locs cells slots Q (F0 m pc ls (.int (nI i) :: .ref (ad q) :: rest)) := by
  refine bw_iald hx hb hE hP q t0 hq hf ht (vp_in_nI hi hL) hdg ?_
  rw [nI_clamp (Nat.lt_trans hi hL)]
  exact kk
theorem ln_zald {f : Nat → va_E} (hx : p.tables.exec = Jvm.exec) (hb : c.code = cc) (hE : bE D tys s) (hP : va_P D cls3 (bw ad n f) H) (q t0 : Nat) (hq : q < n) {cA : ClassId} {L : Nat} {g : Nat → Int32} (hf : f q = .inl (cA, L, .inl g)) (ht : tys[t0]? = some (cA, .boolean)) {i : Nat} (hi : i < L) (hL : L < 2147483648) (hdg : decode cc pc = .ok (.baload, 1))
    (kk : W p l e R s m args below meth c H locs cells slots Q (F0 m (pc + 1) ls (.int (g i) :: rest))) : W p l e R s m args below meth c H locs cells slots Q (F0 m pc ls (.int (nI i) :: .ref (ad q) :: rest)) := by
  refine bw_zald hx hb hE hP q t0 hq hf ht (vp_in_nI hi hL) hdg ?_
  rw [nI_clamp (Nat.lt_trans hi hL)]
  exact kk
theorem ln_lald {f : Nat → va_E} (hx : p.tables.exec = Jvm.exec) (hb : c.code = cc) (hE : bE D tys s) (hP : va_P D cls3 (bw ad n f) H) (q t0 : Nat) (hq : q < n) {cA : ClassId} {L : Nat} {g : Nat → Int64} (hf : f q = .inl (cA, L, .inr (.inl g))) (ht : tys[t0]? = some (cA, .long)) {i : Nat} (hi : i < L) (hL : L < 2147483648) (hdg : decode cc pc = .ok (.laload, 1))
    (kk : W p l e R s m args below meth c H locs cells slots Q (F0 m (pc + 1) ls (.long (g i) :: rest))) : W p l e R s m args below meth c H locs cells slots Q (F0 m pc ls (.int (nI i) :: .ref (ad q) :: rest)) := by
  refine bw_lald hx hb hE hP q t0 hq hf ht (vp_in_nI hi hL) hdg ?_
  rw [nI_clamp (Nat.lt_trans hi hL)]
  exact kk
theorem ln_aald {f : Nat → va_E} (hx : p.tables.exec = Jvm.exec) (hb : c.code = cc) (hE : bE D tys s) (hP : va_P D cls3 (bw ad n f) H) (q t0 : Nat) (hq : q < n) {cA : ClassId} {L : Nat} {g : Nat → Option Nat} (hf : f q = .inl (cA, L, .inr (.inr (.inr (.inr g))))) (ht : tys[t0]? = some (cA, .array .int)) {i : Nat} (hi : i < L) (hL : L < 2147483648) {a : Nat} (hg : g i = some a) (hdg : decode cc pc = .ok (.aaload, 1))
    (kk : W p l e R s m args below meth c H locs cells slots Q (F0 m (pc + 1) ls (.ref a :: rest))) : W p l e R s m args below meth c H locs cells slots Q (F0 m pc ls (.int (nI i) :: .ref (ad q) :: rest)) :=
  bw_aald hx hb hE hP q t0 hq hf ht (vp_in_nI hi hL) (by rw [nI_clamp (Nat.lt_trans hi hL)]; exact hg) hdg kk
theorem ln_iast {ρ : Type} {cell : Nat → ρ → va_E} {M : Nat → ρ} (hx : p.tables.exec = Jvm.exec) (hb : c.code = cc) (hE : bE D tys s) (hI : bw_I ad n) (hP : va_P D cls3 (bw ad n (fun j => cell j (M j))) H) (hS : va_S (bw_A ad n s.heap.size) s.heap H locs) (q t0 : Nat) (hq : q < n) {cA : ClassId} {L : Nat} {g : Nat → Int32} (hf : cell q (M q) = .inl (cA, L, .inl g)) (ht : tys[t0]? = some (cA, .int)) {i : Nat} {x : Int32} (hi : i < L) (hL : L < 2147483648) (r : ρ) (hf' : cell q r = .inl (cA, L, .inl (upd g i x))) (hdg : decode cc pc = .ok (.iastore, 1))
    (kk : ∀ (M1 : Nat → ρ) (H1 : Heap) (locs1 : List Loc), M1 = va_up M q r → va_P D cls3 (bw ad n (fun j => cell j (M1 j))) H1 → va_S (bw_A ad n s.heap.size) s.heap H1 locs1 → W p l e R s m args below meth c H1 locs1 cells slots Q (F0 m (pc + 1) ls rest)) : W p l e R s m args below meth c H locs cells slots Q (F0 m pc ls (.int x :: .int (nI i) :: .ref (ad q) :: rest)) :=
  bw_iast hx hb hE hI hP hS q t0 hq hf ht (vp_in_nI hi hL) r (by rw [nI_clamp (Nat.lt_trans hi hL)]; exact hf') hdg kk
theorem ln_zast {ρ : Type} {cell : Nat → ρ → va_E} {M : Nat → ρ} (hx : p.tables.exec = Jvm.exec) (hb : c.code = cc) (hE : bE D tys s) (hI : bw_I ad n) (hP : va_P D cls3 (bw ad n (fun j => cell j (M j))) H) (hS : va_S (bw_A ad n s.heap.size) s.heap H locs) (q t0 : Nat) (hq : q < n) {cA : ClassId} {L : Nat} {g : Nat → Int32} (hf : cell q (M q) = .inl (cA, L, .inl g)) (ht : tys[t0]? = some (cA, .boolean)) {i : Nat} {x : Int32} (hi : i < L) (hL : L < 2147483648) (r : ρ) (hf' : cell q r = .inl (cA, L, .inl (upd g i (vp_nar .boolean x)))) (hdg : decode cc pc = .ok (.bastore, 1))
    (kk : ∀ (M1 : Nat → ρ) (H1 : Heap) (locs1 : List Loc), M1 = va_up M q r → va_P D cls3 (bw ad n (fun j => cell j (M1 j))) H1 → va_S (bw_A ad n s.heap.size) s.heap H1 locs1 → W p l e R s m args below meth c H1 locs1 cells slots Q (F0 m (pc + 1) ls rest)) : W p l e R s m args below meth c H locs cells slots Q (F0 m pc ls (.int x :: .int (nI i) :: .ref (ad q) :: rest)) :=
  bw_zast hx hb hE hI hP hS q t0 hq hf ht (vp_in_nI hi hL) r (by rw [nI_clamp (Nat.lt_trans hi hL)]; exact hf') hdg kk
theorem ln_last {ρ : Type} {cell : Nat → ρ → va_E} {M : Nat → ρ} (hx : p.tables.exec = Jvm.exec) (hb : c.code = cc) (hE : bE D tys s) (hI : bw_I ad n) (hP : va_P D cls3 (bw ad n (fun j => cell j (M j))) H) (hS : va_S (bw_A ad n s.heap.size) s.heap H locs) (q t0 : Nat) (hq : q < n) {cA : ClassId} {L : Nat} {g : Nat → Int64} (hf : cell q (M q) = .inl (cA, L, .inr (.inl g))) (ht : tys[t0]? = some (cA, .long)) {i : Nat} {x : Int64} (hi : i < L) (hL : L < 2147483648) (r : ρ) (hf' : cell q r = .inl (cA, L, .inr (.inl (vp_updL g i x)))) (hdg : decode cc pc = .ok (.lastore, 1))
    (kk : ∀ (M1 : Nat → ρ) (H1 : Heap) (locs1 : List Loc), M1 = va_up M q r → va_P D cls3 (bw ad n (fun j => cell j (M1 j))) H1 → va_S (bw_A ad n s.heap.size) s.heap H1 locs1 → W p l e R s m args below meth c H1 locs1 cells slots Q (F0 m (pc + 1) ls rest)) : W p l e R s m args below meth c H locs cells slots Q (F0 m pc ls (.long x :: .int (nI i) :: .ref (ad q) :: rest)) :=
  bw_last hx hb hE hI hP hS q t0 hq hf ht (vp_in_nI hi hL) r (by rw [nI_clamp (Nat.lt_trans hi hL)]; exact hf') hdg kk
theorem ln_if_le (hx : p.tables.exec = Jvm.exec) (hb : c.code = cc) {x : Nat} {off : Int} {tgt : Nat} (hdg : decode cc pc = .ok (.ifCond .le off, 3)) (ht : (pc : Int) + off = (tgt : Int)) (h1 : x < 2147483648) (kt : x = 0 → W p l e R s m args below meth c H locs cells slots Q (F0 m tgt ls rest)) (kf : 0 < x → W p l e R s m args below meth c H locs cells slots Q (F0 m (pc + 3) ls rest)) : W p l e R s m args below meth c H locs cells slots Q (F0 m pc ls (.int (nI x) :: rest)) :=
  lv_if_le hx hb hdg ht (fun q => kt (Nat.eq_zero_of_not_pos (fun z => nI_nle z h1 q))) (fun q => kf (Nat.pos_of_ne_zero (fun z => q (by rw [z]; decide))))
theorem ln_if_lt (hx : p.tables.exec = Jvm.exec) (hb : c.code = cc) {x : Nat} {off : Int} {tgt : Nat} (hdg : decode cc pc = .ok (.ifCond .lt off, 3)) (ht : (pc : Int) + off = (tgt : Int)) (h1 : x < 2147483648) (kf : W p l e R s m args below meth c H locs cells slots Q (F0 m (pc + 3) ls rest)) : W p l e R s m args below meth c H locs cells slots Q (F0 m pc ls (.int (nI x) :: rest)) :=
  lv_if_lt hx hb hdg ht (fun q => absurd q (nI_pos h1)) (fun _ => kf)
/-- the top of the stack under another name -/
theorem ln_asi {x : Int32} (y : Int32) (h : x = y) (k : W p l e R s m args below meth c H locs cells slots Q (F0 m pc ls (.int y :: rest))) : W p l e R s m args below meth c H locs cells slots Q (F0 m pc ls (.int x :: rest)) := by
  rw [h]
  exact k
theorem ln_asl {x : Int64} (y : Int64) (h : x = y) (k : W p l e R s m args below meth c H locs cells slots Q (F0 m pc ls (.long y :: rest))) : W p l e R s m args below meth c H locs cells slots Q (F0 m pc ls (.long x :: rest)) := by
  rw [h]
  exact k
end LN
/-! THE CLASS'S BLOCK: 162 cells. Place 0: the object; 1 parents, 2 kinds, 3 hidden; 4 numbers, its rows 5 .. 52; 53 locals, its rows 54 .. 101; 102 worlds, its rows 103 .. 150; 151 eye, 152 view, 153 the seen-through flags, 154 depths, 155 order; 156 the turner, 157 .. 161 its matrices. A row r of numbers a place: the ints of the array, or of the object at their field's number. -/
def sc_len (k : Nat) : Nat := if k < 3 then 48 else if k < 53 then 9 else if k < 151 then 12 else if k = 151 then 9 else if k = 152 then 12 else if k < 156 then 48 else 12
def sc_grid (cs : Nat → ClassId) (ad : Nat → Nat) (b : Nat) : va_E := .inl (cs 2, 48, .inr (.inr (.inr (.inr (fun i => if i < 48 then some (ad (b + i)) else none)))))
def sc_cell (cs : Nat → ClassId) (ad : Nat → Nat) (k : Nat) (r : Nat → Int32) : va_E :=
  if k = 0 then .inr (1, [.int (r 0), .ref (ad 1), .ref (ad 2), .ref (ad 3), .ref (ad 4), .ref (ad 53), .ref (ad 102), .int (r 7), .ref (ad 151), .ref (ad 152), .ref (ad 153), .ref (ad 154), .ref (ad 155), .ref (ad 156)])
  else if k = 156 then .inr (0, [.ref (ad 157), .ref (ad 158), .ref (ad 159), .ref (ad 160), .ref (ad 161)])
  else if k = 4 then sc_grid cs ad 5 else if k = 53 then sc_grid cs ad 54 else if k = 102 then sc_grid cs ad 103
  else if k = 3 then .inl (cs 1, 48, .inl r) else if k = 153 then .inl (cs 1, 48, .inl r)
  else .inl (cs 0, sc_len k, .inl r)
/-- the array classes: of ints, of booleans, of arrays of ints, of longs -/
def a_tys (cs : Nat → ClassId) : List (ClassId × FieldType) := [(cs 0, .int), (cs 1, .boolean), (cs 2, .array .int), (cs 3, .long)]
theorem sc_row5 {cs : Nat → ClassId} {ad : Nat → Nat} {j : Nat} {r : Nat → Int32} (h : j < 48) : sc_cell cs ad (5 + j) r = .inl (cs 0, 9, .inl r) := by
  unfold sc_cell sc_len
  rw [if_neg (by omega), if_neg (by omega), if_neg (by omega), if_neg (by omega), if_neg (by omega), if_neg (by omega), if_neg (by omega), if_neg (by omega), if_pos (by omega)]
theorem sc_row54 {cs : Nat → ClassId} {ad : Nat → Nat} {j : Nat} {r : Nat → Int32} (h : j < 48) : sc_cell cs ad (54 + j) r = .inl (cs 0, 12, .inl r) := by
  unfold sc_cell sc_len
  rw [if_neg (by omega), if_neg (by omega), if_neg (by omega), if_neg (by omega), if_neg (by omega), if_neg (by omega), if_neg (by omega), if_neg (by omega), if_neg (by omega), if_pos (by omega)]
theorem sc_row103 {cs : Nat → ClassId} {ad : Nat → Nat} {j : Nat} {r : Nat → Int32} (h : j < 48) : sc_cell cs ad (103 + j) r = .inl (cs 0, 12, .inl r) := by
  unfold sc_cell sc_len
  rw [if_neg (by omega), if_neg (by omega), if_neg (by omega), if_neg (by omega), if_neg (by omega), if_neg (by omega), if_neg (by omega), if_neg (by omega), if_neg (by omega), if_pos (by omega)]
/-- what a method of the class finds at its start -/
abbrev sP (D : va_G) (cs : Nat → ClassId) (ad : Nat → Nat) (M : Nat → Nat → Int32) (sz : Nat) : State → Prop := bPre D (a_tys cs) ad 162 (fun j => sc_cell cs ad j (M j)) sz
/-! THE REFERENCE'S BLOCK: 13 cells. Place 0: the object (thrown, many); 1 parents, 2 kinds, 3 hidden, 4 numbers (441), 5 way; 6 depths; 7 made, 8 left, 9 right, 10 part, 11 own, 12 above. A row: ints and longs. -/
abbrev mRow : Type := (Nat → Int32) × (Nat → Int64)
def mc_cell (cs : Nat → ClassId) (ad : Nat → Nat) (k : Nat) (r : mRow) : va_E :=
  if k = 0 then .inr (2, [.int (r.1 0), .int (r.1 1), .ref (ad 1), .ref (ad 2), .ref (ad 3), .ref (ad 4), .ref (ad 5), .ref (ad 6), .ref (ad 7), .ref (ad 8), .ref (ad 9), .ref (ad 10), .ref (ad 11), .ref (ad 12)])
  else if k = 3 then .inl (cs 1, 48, .inl r.1)
  else if k = 4 then .inl (cs 0, 441, .inl r.1)
  else if k < 6 then .inl (cs 0, 48, .inl r.1)
  else if k = 6 then .inl (cs 3, 48, .inr (.inl r.2))
  else .inl (cs 3, 12, .inr (.inl r.2))
abbrev mP (D : va_G) (cs : Nat → ClassId) (ad : Nat → Nat) (M : Nat → mRow) (sz : Nat) : State → Prop := bPre D (a_tys cs) ad 13 (fun j => mc_cell cs ad j (M j)) sz
