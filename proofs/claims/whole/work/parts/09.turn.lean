/-! TURNS, LOCALS, THE VIEW (the class) -/
theorem nst_55 : Cond.methodLinkNest RS 55 yT_init RS ∈ nestW := List.mem_of_getElem? (i := 0) rfl
theorem nst_118 : Cond.methodLinkNest RS 118 yT_turnOf RS ∈ nestW := List.mem_of_getElem? (i := 1) rfl
theorem nst_35 : Cond.methodLinkNest RT 35 yS_sine RS ∈ nestW := List.mem_of_getElem? (i := 2) rfl
theorem nst_31 : Cond.methodLinkNest RT 31 yS_multiply RS ∈ nestW := List.mem_of_getElem? (i := 3) rfl
abbrev sc9 (cs : Nat → ClassId) (ad : Nat → Nat) (k : Nat) : Prop := ∀ r : Nat → Int32, sc_cell cs ad k r = .inl (cs 0, 9, .inl r)
def jput (r : Nat → Int32) (q : Nat) (x y z : Int32) : Nat → Int32 := upd (upd (upd r (3 * q) x) (3 * q + 1) y) (3 * q + 2) z
/-- the matrix of a turn by a, about the axis that is neither p nor q, laid over r -/
def jspin (r : Nat → Int32) (p q : Nat) (a : Int32) : Nat → Int32 := upd (upd (upd (upd (upd r (4 * (3 - p - q) + (3 - p - q)) 65536) (4 * p + p) (jsin (a + nI 1024))) (4 * p + q) (-(jsin a))) (4 * q + p) (jsin a)) (4 * q + q) (jsin (a + nI 1024))
def jmat (a b : Nat → Int32) : Nat → Int32 := fun t => jprod a b (t / 4) (t % 4)
def jturn (a b c : Int32) : Nat → Int32 := jmat (jmat (jspin (fun _ => 0) 2 0 b) (jspin (fun _ => 0) 1 2 a)) (jspin (fun _ => 0) 0 1 c)
/-- the turner's matrices are 0 where no turn writes -/
def sTZ (M : Nat → Nat → Int32) : Prop := (∀ t, (t = 1 ∨ t = 2 ∨ t = 3 ∨ t = 4 ∨ t = 7 ∨ t = 8 ∨ t = 11) → M 157 t = 0) ∧ (∀ t, (t = 1 ∨ t = 3 ∨ t = 4 ∨ t = 6 ∨ t = 7 ∨ t = 9 ∨ t = 11) → M 158 t = 0) ∧ (∀ t, (t = 2 ∨ t = 3 ∨ t = 6 ∨ t = 7 ∨ t = 8 ∨ t = 9 ∨ t = 11) → M 159 t = 0)
theorem jprod_congr {a a' b b' : Nat → Int32} (ha : ∀ t, t < 12 → a t = a' t) (hb : ∀ t, t < 12 → b t = b' t) {i j : Nat} (hi : i < 3) (hj : j < 4) : jprod a b i j = jprod a' b' i j := by
  unfold jprod jsum
  rw [ha (4 * i) (by omega), ha (4 * i + 1) (by omega), ha (4 * i + 2) (by omega), ha (4 * i + 3) (by omega), hb j (by omega), hb (4 + j) (by omega), hb (8 + j) (by omega)]
theorem jspin_x {r : Nat → Int32} (h : ∀ t, (t = 1 ∨ t = 2 ∨ t = 3 ∨ t = 4 ∨ t = 7 ∨ t = 8 ∨ t = 11) → r t = 0) (a : Int32) : (∀ t, t < 12 → jspin r 1 2 a t = jspin (fun _ => 0) 1 2 a t) ∧ ∀ t, (t = 1 ∨ t = 2 ∨ t = 3 ∨ t = 4 ∨ t = 7 ∨ t = 8 ∨ t = 11) → jspin r 1 2 a t = 0 := by
  have key : ∀ t, (t = 1 ∨ t = 2 ∨ t = 3 ∨ t = 4 ∨ t = 7 ∨ t = 8 ∨ t = 11) → jspin r 1 2 a t = r t := by
    intro t ht
    unfold jspin
    rw [pk_un (by omega), pk_un (by omega), pk_un (by omega), pk_un (by omega), pk_un (by omega)]
  refine ⟨fun t ht => ?_, fun t ht => by rw [key t ht, h t ht]⟩
  by_cases hz : t = 1 ∨ t = 2 ∨ t = 3 ∨ t = 4 ∨ t = 7 ∨ t = 8 ∨ t = 11
  · rw [key t hz, h t hz]
    unfold jspin
    rw [pk_un (by omega), pk_un (by omega), pk_un (by omega), pk_un (by omega), pk_un (by omega)]
  · rcases (show t = 0 ∨ t = 5 ∨ t = 6 ∨ t = 9 ∨ t = 10 by omega) with rfl | rfl | rfl | rfl | rfl <;> rfl
theorem jspin_y {r : Nat → Int32} (h : ∀ t, (t = 1 ∨ t = 3 ∨ t = 4 ∨ t = 6 ∨ t = 7 ∨ t = 9 ∨ t = 11) → r t = 0) (a : Int32) : (∀ t, t < 12 → jspin r 2 0 a t = jspin (fun _ => 0) 2 0 a t) ∧ ∀ t, (t = 1 ∨ t = 3 ∨ t = 4 ∨ t = 6 ∨ t = 7 ∨ t = 9 ∨ t = 11) → jspin r 2 0 a t = 0 := by
  have key : ∀ t, (t = 1 ∨ t = 3 ∨ t = 4 ∨ t = 6 ∨ t = 7 ∨ t = 9 ∨ t = 11) → jspin r 2 0 a t = r t := by
    intro t ht
    unfold jspin
    rw [pk_un (by omega), pk_un (by omega), pk_un (by omega), pk_un (by omega), pk_un (by omega)]
  refine ⟨fun t ht => ?_, fun t ht => by rw [key t ht, h t ht]⟩
  by_cases hz : t = 1 ∨ t = 3 ∨ t = 4 ∨ t = 6 ∨ t = 7 ∨ t = 9 ∨ t = 11
  · rw [key t hz, h t hz]
    unfold jspin
    rw [pk_un (by omega), pk_un (by omega), pk_un (by omega), pk_un (by omega), pk_un (by omega)]
  · rcases (show t = 0 ∨ t = 2 ∨ t = 5 ∨ t = 8 ∨ t = 10 by omega) with rfl | rfl | rfl | rfl | rfl <;> rfl
theorem jspin_z {r : Nat → Int32} (h : ∀ t, (t = 2 ∨ t = 3 ∨ t = 6 ∨ t = 7 ∨ t = 8 ∨ t = 9 ∨ t = 11) → r t = 0) (a : Int32) : (∀ t, t < 12 → jspin r 0 1 a t = jspin (fun _ => 0) 0 1 a t) ∧ ∀ t, (t = 2 ∨ t = 3 ∨ t = 6 ∨ t = 7 ∨ t = 8 ∨ t = 9 ∨ t = 11) → jspin r 0 1 a t = 0 := by
  have key : ∀ t, (t = 2 ∨ t = 3 ∨ t = 6 ∨ t = 7 ∨ t = 8 ∨ t = 9 ∨ t = 11) → jspin r 0 1 a t = r t := by
    intro t ht
    unfold jspin
    rw [pk_un (by omega), pk_un (by omega), pk_un (by omega), pk_un (by omega), pk_un (by omega)]
  refine ⟨fun t ht => ?_, fun t ht => by rw [key t ht, h t ht]⟩
  by_cases hz : t = 2 ∨ t = 3 ∨ t = 6 ∨ t = 7 ∨ t = 8 ∨ t = 9 ∨ t = 11
  · rw [key t hz, h t hz]
    unfold jspin
    rw [pk_un (by omega), pk_un (by omega), pk_un (by omega), pk_un (by omega), pk_un (by omega)]
  · rcases (show t = 0 ∨ t = 1 ∨ t = 4 ∨ t = 5 ∨ t = 10 by omega) with rfl | rfl | rfl | rfl | rfl <;> rfl
theorem turn_done {M M1 M2 M3 M4 M5 : Nat → Nat → Int32} {k : Nat} (hk : k < 157) (hz : sTZ M) (e1 : M1 = va_up M 157 (jspin (M 157) 1 2 (M k 3))) (e2 : M2 = va_up M1 158 (jspin (M1 158) 2 0 (M1 k 4))) (e3 : M3 = va_up M2 159 (jspin (M2 159) 0 1 (M2 k 5))) (h4 : (∀ q, q ≠ 160 → M4 q = M3 q) ∧ ∀ i j, i < 3 → j < 4 → M4 160 (4 * i + j) = jprod (M3 158) (M3 157) i j) (h5 : (∀ q, q ≠ 161 → M5 q = M4 q) ∧ ∀ i j, i < 3 → j < 4 → M5 161 (4 * i + j) = jprod (M4 160) (M4 159) i j) :
    (∀ q, q < 157 → M5 q = M q) ∧ sTZ M5 ∧ ∀ t, t < 12 → M5 161 t = jturn (M k 3) (M k 4) (M k 5) t := by
  have x1 : M1 k = M k := by rw [e1, va_up_ne _ _ (by omega)]
  have x2 : M2 k = M k := by rw [e2, va_up_ne _ _ (by omega), x1]
  have a1 : M3 157 = jspin (M 157) 1 2 (M k 3) := by rw [e3, va_up_ne _ _ (by omega), e2, va_up_ne _ _ (by omega), e1, va_up_self]
  have a2 : M3 158 = jspin (M 158) 2 0 (M k 4) := by rw [e3, va_up_ne _ _ (by omega), e2, va_up_self, x1, e1, va_up_ne _ _ (by omega)]
  have a3 : M3 159 = jspin (M 159) 0 1 (M k 5) := by rw [e3, va_up_self, x2, e2, va_up_ne _ _ (by omega), e1, va_up_ne _ _ (by omega)]
  obtain ⟨z1, z2, z3⟩ := hz
  obtain ⟨s1, s1'⟩ := jspin_x z1 (M k 3)
  obtain ⟨s2, s2'⟩ := jspin_y z2 (M k 4)
  obtain ⟨s3, s3'⟩ := jspin_z z3 (M k 5)
  refine ⟨fun q hq => ?_, ⟨fun t ht => ?_, fun t ht => ?_, fun t ht => ?_⟩, fun t ht => ?_⟩
  · rw [h5.1 q (by omega), h4.1 q (by omega), e3, va_up_ne _ _ (by omega), e2, va_up_ne _ _ (by omega), e1, va_up_ne _ _ (by omega)]
  · rw [h5.1 157 (by omega), h4.1 157 (by omega), a1]; exact s1' t ht
  · rw [h5.1 158 (by omega), h4.1 158 (by omega), a2]; exact s2' t ht
  · rw [h5.1 159 (by omega), h4.1 159 (by omega), a3]; exact s3' t ht
  · have ht2 : t = 4 * (t / 4) + t % 4 := by omega
    rw [ht2, h5.2 (t / 4) (t % 4) (by omega) (by omega), ← ht2]
    refine jprod_congr (fun u hu => ?_) (fun u hu => ?_) (by omega) (by omega)
    · have hu2 : u = 4 * (u / 4) + u % 4 := by omega
      rw [hu2, h4.2 (u / 4) (u % 4) (by omega) (by omega), ← hu2, a1, a2]
      exact jprod_congr s2 s1 (by omega) (by omega)
    · rw [h4.1 159 (by omega), a3]; exact s3 u hu
/-- a matrix at place k filled up to t, all else as it was -/
def mfill (M0 M1 : Nat → Nat → Int32) (k t : Nat) (F : Nat → Nat → Int32) : Prop := (∀ q, q ≠ k → M1 q = M0 q) ∧ ∀ a b, a < 3 → b < 4 → 4 * a + b < t → M1 k (4 * a + b) = F a b
theorem mfill.zero {M : Nat → Nat → Int32} {k : Nat} {F : Nat → Nat → Int32} : mfill M M k 0 F := ⟨fun _ _ => rfl, fun a b _ _ h => by omega⟩
theorem mfill.le {M0 M1 : Nat → Nat → Int32} {k t t' : Nat} {F : Nat → Nat → Int32} (h : mfill M0 M1 k t F) (ht : t' ≤ t) : mfill M0 M1 k t' F := ⟨h.1, fun a b h1 h2 h3 => h.2 a b h1 h2 (by omega)⟩
theorem mfill.step {M0 M1 M2 : Nat → Nat → Int32} {k i j : Nat} {r : Int32} {F : Nat → Nat → Int32} (h : mfill M0 M1 k (4 * i + j) F) (e : M2 = va_up M1 k (upd (M1 k) (4 * i + j) r)) (hr : r = F i j) (hj : j < 4) : mfill M0 M2 k (4 * i + (j + 1)) F := by
  subst e
  refine ⟨fun q hq => by rw [va_up_ne _ _ hq]; exact h.1 q hq, fun a b h1 h2 h3 => ?_⟩
  rw [va_up_self]
  by_cases hq : 4 * a + b = 4 * i + j
  · have h4 : a = i ∧ b = j := by omega
    obtain ⟨rfl, rfl⟩ := h4
    rw [pk_us, hr]
  · rw [pk_un hq]
    exact h.2 a b h1 h2 (by omega)
theorem mfill.done {M0 M1 : Nat → Nat → Int32} {k : Nat} {F : Nat → Nat → Int32} (h : mfill M0 M1 k 12 F) {t : Nat} (ht : t < 12) : M1 k t = F (t / 4) (t % 4) := by
  have ht2 : t = 4 * (t / 4) + t % 4 := by omega
  have := h.2 (t / 4) (t % 4) (by omega) (by omega) (by omega)
  rw [← ht2] at this
  exact this
/-- LOCAL, out of a node's nine numbers -/
def jlc (T u : Nat → Int32) (i j : Nat) : Int32 := if j = 3 then u (0 + i) else (jcl (jmul (T (4 * i + j)).toInt64 (u (6 + j)).toInt64)).toInt32
def jlocal (u : Nat → Int32) : Nat → Int32 := fun t => jlc (jturn (u 3) (u 4) (u 5)) u (t / 4) (t % 4)
/-- VIEW, out of the camera's numbers -/
def jal (T u : Nat → Int32) (i : Nat) : Nat → Int64
  | 0 => 0
  | j + 1 => jal T u i j + jmul (T (4 * j + i)).toInt64 (u (0 + j)).toInt64
def jvc (T u : Nat → Int32) (i j : Nat) : Int32 := if j = 3 then (jcl (-(jal T u i 3))).toInt32 else T (4 * j + i)
def jview (u : Nat → Int32) : Nat → Int32 := fun t => jvc (jturn (u 3) (u 4) (u 5)) u (t / 4) (t % 4)
theorem jal_congr {T T' u u' : Nat → Int32} (hT : ∀ t, t < 12 → T t = T' t) (hu : ∀ t, t < 9 → u t = u' t) {i : Nat} (hi : i < 3) : ∀ j, j ≤ 3 → jal T u i j = jal T' u' i j
  | 0, _ => rfl
  | j + 1, h => by rw [jal, jal, jal_congr hT hu hi j (by omega), hT (4 * j + i) (by omega), hu (0 + j) (by omega)]
theorem jlc_congr {T T' u u' : Nat → Int32} (hT : ∀ t, t < 12 → T t = T' t) (hu : ∀ t, t < 9 → u t = u' t) {i j : Nat} (hi : i < 3) (hj : j < 4) : jlc T u i j = jlc T' u' i j := by
  unfold jlc
  by_cases h : j = 3
  · rw [if_pos h, if_pos h, hu (0 + i) (by omega)]
  · rw [if_neg h, if_neg h, hT (4 * i + j) (by omega), hu (6 + j) (by omega)]
theorem jvc_congr {T T' u u' : Nat → Int32} (hT : ∀ t, t < 12 → T t = T' t) (hu : ∀ t, t < 9 → u t = u' t) {i j : Nat} (hi : i < 3) (hj : j < 4) : jvc T u i j = jvc T' u' i j := by
  unfold jvc
  by_cases h : j = 3
  · rw [if_pos h, if_pos h, jal_congr hT hu hi 3 (by omega)]
  · rw [if_neg h, if_neg h, hT (4 * j + i) (by omega)]

set_option maxHeartbeats 4000000 in
set_option maxRecDepth 100000 in
/-- three numbers of a row -/
theorem kS_put (l : Launch) (D : va_G) (cs : Nat → ClassId) (ad : Nat → Nat) (hI : bw_I ad 162) (M : Nat → Nat → Int32) (sz : Nat) (k q : Nat) (hk : k < 162) (fk : sc9 cs ad k) (hq : q < 3) (x y z : Int32)  : Met l yS_put (wc yS_put cS_put 5 none) ({ frames := 0, cells := 0, slots := 0, locals := 0 } : Room) (va_Pc [.ref (ad k), .int (nI q), .int x, .int y, .int z] (sP D cs ad M sz)) (bQv D ad 162 (sc_cell cs ad) sz (fun M1 => M1 = va_up M k (jput (M k) q x y z))) 0 0 (bw_A ad 162 sz) := by
  refine Met.ofW (cc := cS_put) (maxL := 5) (ret := none) (by decide +kernel) rfl ?_
  intro p e s m args below meth c s₁ B hml hv
  obtain ⟨rfl, hsz, hP, hE⟩ := hv
  subst hsz
  have hx := B.exec
  have hb := B.bytes
  have hr := B.returns
  have hts : ∀ w9 ∈ ws_all, w9.before ([.ref (ad k), .int (nI q), .int x, .int y, .int z] : List Value).toArray s = true := fun w9 h => atoms_spec (ws := (wc yS_put cS_put 5 none)) B.pre w9 (List.mem_cons_of_mem _ h)
  have hown : s.vm.findClass RS = some m.cls := findClass_of_methodNamed B.named
  have hlocks := B.notSynchronized
  have hS : va_S (bw_A ad 162 s.heap.size) s.heap s.heap [] := va_S.rf
  have hl := lv_entry ([.ref (ad k), .int (nI q), .int x, .int y, .int z]) (n := 5) (Nat.le_of_ble_eq_true rfl)
  rw [lg_entry_eq]
  generalize (lg_sl ([.ref (ad k), .int (nI q), .int x, .int y, .int z]) ++ List.replicate (5 - (lg_sl ([.ref (ad k), .int (nI q), .int x, .int y, .int z])).length) Slot.unset).toArray = ls at hl ⊢
  have hl : lv_has ls 5 [(0, .ref (ad k)), (1, .int (nI q)), (2, .int x), (3, .int y), (4, .int z)] := hl
  refine lv_aload_n hx hb dS_put_0 rfl (lv_at hl 0 rfl) ?_
  refine lv_iconst (v := nI 3) hx hb dS_put_1 (by decide) ?_
  refine lv_iload_n hx hb dS_put_2 rfl (lv_at hl 1 rfl) ?_
  refine ln_imul hx hb dS_put_3 ?_
  refine lv_iload_n hx hb dS_put_4 rfl (lv_at hl 2 rfl) ?_
  refine ln_iast (L := 9) hx hb hE hI hP hS k 0 (hk) (fk _) rfl (by omega) (by decide) (upd (M k) (3 * q) x) (fk _) dS_put_5 (fun M_1 H locs eM_1 hP hS => ?_)
  refine lv_aload_n hx hb dS_put_6 rfl (lv_at hl 0 rfl) ?_
  refine lv_iconst (v := nI 3) hx hb dS_put_7 (by decide) ?_
  refine lv_iload_n hx hb dS_put_8 rfl (lv_at hl 1 rfl) ?_
  refine ln_imul hx hb dS_put_9 ?_
  refine lv_iconst (v := nI 1) hx hb dS_put_10 (by decide) ?_
  refine ln_iadd hx hb dS_put_11 ?_
  refine lv_iload_n hx hb dS_put_12 rfl (lv_at hl 3 rfl) ?_
  refine ln_iast (L := 9) hx hb hE hI hP hS k 0 (hk) (fk _) rfl (by omega) (by decide) (upd (M_1 k) ((3 * q) + 1) y) (fk _) dS_put_13 (fun M_2 H locs eM_2 hP hS => ?_)
  refine lv_aload_n hx hb dS_put_14 rfl (lv_at hl 0 rfl) ?_
  refine lv_iconst (v := nI 3) hx hb dS_put_15 (by decide) ?_
  refine lv_iload_n hx hb dS_put_16 rfl (lv_at hl 1 rfl) ?_
  refine ln_imul hx hb dS_put_17 ?_
  refine lv_iconst (v := nI 2) hx hb dS_put_18 (by decide) ?_
  refine ln_iadd hx hb dS_put_19 ?_
  refine lv_iload hx hb dS_put_20 (lv_at hl 4 rfl) ?_
  refine ln_iast (L := 9) hx hb hE hI hP hS k 0 (hk) (fk _) rfl (by omega) (by decide) (upd (M_2 k) ((3 * q) + 2) z) (fk _) dS_put_22 (fun M_3 H locs eM_3 hP hS => ?_)
  exact W.vret hx hb hr (fun t ht hW => ⟨⟨M_3, rfl, by rw [eM_3, eM_2, eM_1]; unfold jput; simp only [va_up_self, bx_uu], by show va_P _ _ _ t.heap; rw [ht]; exact hP⟩, hS.F ht⟩) hS.2.2 dS_put_23

set_option maxHeartbeats 4000000 in
set_option maxRecDepth 100000 in
/-- the matrix of a turn -/
theorem kT_spin (l : Launch) (D : va_G) (cs : Nat → ClassId) (ad : Nat → Nat) (hI : bw_I ad 162) (M : Nat → Nat → Int32) (sz : Nat) (k i j : Nat) (hk : k < 162) (fk : sc12 cs ad k) (hi : i < 3) (hj : j < 3) (hij : i ≠ j) (a : Int32)  : Met l yT_spin (wc yT_spin cT_spin 7 none) ({ frames := 2, cells := 0, slots := 0, locals := 53 } : Room) (va_Pc [.ref (ad k), .int (nI i), .int (nI j), .int a] (sP D cs ad M sz)) (bQv D ad 162 (sc_cell cs ad) sz (fun M1 => M1 = va_up M k (jspin (M k) i j a))) 0 0 (bw_A ad 162 sz) := by
  refine Met.ofW (cc := cT_spin) (maxL := 7) (ret := none) (by decide +kernel) rfl ?_
  intro p e s m args below meth c s₁ B hml hv
  obtain ⟨rfl, hsz, hP, hE⟩ := hv
  subst hsz
  have hx := B.exec
  have hb := B.bytes
  have hr := B.returns
  have hts : ∀ w9 ∈ ws_all, w9.before ([.ref (ad k), .int (nI i), .int (nI j), .int a] : List Value).toArray s = true := fun w9 h => atoms_spec (ws := (wc yT_spin cT_spin 7 none)) B.pre w9 (List.mem_cons_of_mem _ h)
  have hown : s.vm.findClass RT = some m.cls := findClass_of_methodNamed B.named
  have hlocks := B.notSynchronized
  have hS : va_S (bw_A ad 162 s.heap.size) s.heap s.heap [] := va_S.rf
  have hl := lv_entry ([.ref (ad k), .int (nI i), .int (nI j), .int a]) (n := 7) (Nat.le_of_ble_eq_true rfl)
  rw [lg_entry_eq]
  generalize (lg_sl ([.ref (ad k), .int (nI i), .int (nI j), .int a]) ++ List.replicate (7 - (lg_sl ([.ref (ad k), .int (nI i), .int (nI j), .int a])).length) Slot.unset).toArray = ls at hl ⊢
  have hl : lv_has ls 7 [(0, .ref (ad k)), (1, .int (nI i)), (2, .int (nI j)), (3, .int a)] := hl
  refine lv_iconst (v := nI 3) hx hb dT_spin_0 (by decide) ?_
  refine lv_iload_n hx hb dT_spin_1 rfl (lv_at hl 1 rfl) ?_
  refine ln_isub hx hb dT_spin_2 (by omega) ?_
  refine lv_iload_n hx hb dT_spin_3 rfl (lv_at hl 2 rfl) ?_
  refine ln_isub hx hb dT_spin_4 (by omega) ?_
  refine lv_istore (lv' := [(4, .int (nI ((3 - i) - j))), (0, .ref (ad k)), (1, .int (nI i)), (2, .int (nI j)), (3, .int a)]) hx hb dT_spin_5 hl (by decide) rfl (fun ls hl => ?_)
  refine lv_iload_n hx hb dT_spin_7 rfl (lv_at hl 4 rfl) ?_
  refine vp_callSi (va_Run.run (bc_runSN (own := RT) (host := RS) (As := [.int a]) (rest := []) hx hb (hml.trans hl.1.symm) hown hts (kS_sine l a) w_57 (hE.2 _ nst_35) w_56 w_1 hd_S_sine rfl ⟨rfl, rfl⟩ ⟨Nat.le_of_ble_eq_true rfl, Nat.le_of_ble_eq_true rfl⟩ (fun _ _ _ _ _ => trivial) (fun _ _ _ => trivial) rfl (Nat.le_of_ble_eq_true rfl) dT_spin_8 ⟨Nat.le_of_ble_eq_true rfl, Nat.le_of_ble_eq_true rfl⟩)) (fun r_8 hr_8 => ?_)
  refine ln_asi (jsin a) (by exact hr_8) ?_
  refine lv_istore (lv' := [(5, .int (jsin a)), (4, .int (nI ((3 - i) - j))), (0, .ref (ad k)), (1, .int (nI i)), (2, .int (nI j)), (3, .int a)]) hx hb dT_spin_11 hl (by decide) rfl (fun ls hl => ?_)
  refine lv_iload_n hx hb dT_spin_13 rfl (lv_at hl 5 rfl) ?_
  refine lv_sipush (v := nI 1024) hx hb dT_spin_14 (by decide) ?_
  refine lv_iadd hx hb dT_spin_17 ?_
  refine vp_callSi (va_Run.run (bc_runSN (own := RT) (host := RS) (As := [.int (a + (nI 1024))]) (rest := []) hx hb (hml.trans hl.1.symm) hown hts (kS_sine l (a + nI 1024)) w_57 (hE.2 _ nst_35) w_56 w_1 hd_S_sine rfl ⟨rfl, rfl⟩ ⟨Nat.le_of_ble_eq_true rfl, Nat.le_of_ble_eq_true rfl⟩ (fun _ _ _ _ _ => trivial) (fun _ _ _ => trivial) rfl (Nat.le_of_ble_eq_true rfl) dT_spin_18 ⟨Nat.le_of_ble_eq_true rfl, Nat.le_of_ble_eq_true rfl⟩)) (fun r_18 hr_18 => ?_)
  refine ln_asi (jsin (a + nI 1024)) (by exact hr_18) ?_
  refine lv_istore (lv' := [(6, .int (jsin (a + nI 1024))), (5, .int (jsin a)), (4, .int (nI ((3 - i) - j))), (0, .ref (ad k)), (1, .int (nI i)), (2, .int (nI j)), (3, .int a)]) hx hb dT_spin_21 hl (by decide) rfl (fun ls hl => ?_)
  refine lv_aload_n hx hb dT_spin_23 rfl (lv_at hl 3 rfl) ?_
  refine lv_iconst (v := nI 4) hx hb dT_spin_24 (by decide) ?_
  refine lv_iload hx hb dT_spin_25 (lv_at hl 2 rfl) ?_
  refine ln_imul hx hb dT_spin_27 ?_
  refine lv_iload hx hb dT_spin_28 (lv_at hl 2 rfl) ?_
  refine ln_iadd hx hb dT_spin_30 ?_
  refine lv_ldc (own := RT) (index := 39) (v := 65536) hx hb hown (hts _ w_67) dT_spin_31 ?_
  refine ln_iast (L := 12) hx hb hE hI hP hS k 0 (hk) (fk _) rfl (by omega) (by decide) (upd (M k) ((4 * ((3 - i) - j)) + ((3 - i) - j)) 65536) (fk _) dT_spin_33 (fun M_1 H locs eM_1 hP hS => ?_)
  refine lv_aload_n hx hb dT_spin_34 rfl (lv_at hl 3 rfl) ?_
  refine lv_iconst (v := nI 4) hx hb dT_spin_35 (by decide) ?_
  refine lv_iload_n hx hb dT_spin_36 rfl (lv_at hl 4 rfl) ?_
  refine ln_imul hx hb dT_spin_37 ?_
  refine lv_iload_n hx hb dT_spin_38 rfl (lv_at hl 4 rfl) ?_
  refine ln_iadd hx hb dT_spin_39 ?_
  refine lv_iload hx hb dT_spin_40 (lv_at hl 0 rfl) ?_
  refine ln_iast (L := 12) hx hb hE hI hP hS k 0 (hk) (fk _) rfl (by omega) (by decide) (upd (M_1 k) ((4 * i) + i) (jsin (a + nI 1024))) (fk _) dT_spin_42 (fun M_2 H locs eM_2 hP hS => ?_)
  refine lv_aload_n hx hb dT_spin_43 rfl (lv_at hl 3 rfl) ?_
  refine lv_iconst (v := nI 4) hx hb dT_spin_44 (by decide) ?_
  refine lv_iload_n hx hb dT_spin_45 rfl (lv_at hl 4 rfl) ?_
  refine ln_imul hx hb dT_spin_46 ?_
  refine lv_iload_n hx hb dT_spin_47 rfl (lv_at hl 5 rfl) ?_
  refine ln_iadd hx hb dT_spin_48 ?_
  refine lv_iload hx hb dT_spin_49 (lv_at hl 1 rfl) ?_
  refine lv_ineg hx hb dT_spin_51 ?_
  refine ln_iast (L := 12) hx hb hE hI hP hS k 0 (hk) (fk _) rfl (by omega) (by decide) (upd (M_2 k) ((4 * i) + j) (-(jsin a))) (fk _) dT_spin_52 (fun M_3 H locs eM_3 hP hS => ?_)
  refine lv_aload_n hx hb dT_spin_53 rfl (lv_at hl 3 rfl) ?_
  refine lv_iconst (v := nI 4) hx hb dT_spin_54 (by decide) ?_
  refine lv_iload_n hx hb dT_spin_55 rfl (lv_at hl 5 rfl) ?_
  refine ln_imul hx hb dT_spin_56 ?_
  refine lv_iload_n hx hb dT_spin_57 rfl (lv_at hl 4 rfl) ?_
  refine ln_iadd hx hb dT_spin_58 ?_
  refine lv_iload hx hb dT_spin_59 (lv_at hl 1 rfl) ?_
  refine ln_iast (L := 12) hx hb hE hI hP hS k 0 (hk) (fk _) rfl (by omega) (by decide) (upd (M_3 k) ((4 * j) + i) (jsin a)) (fk _) dT_spin_61 (fun M_4 H locs eM_4 hP hS => ?_)
  refine lv_aload_n hx hb dT_spin_62 rfl (lv_at hl 3 rfl) ?_
  refine lv_iconst (v := nI 4) hx hb dT_spin_63 (by decide) ?_
  refine lv_iload_n hx hb dT_spin_64 rfl (lv_at hl 5 rfl) ?_
  refine ln_imul hx hb dT_spin_65 ?_
  refine lv_iload_n hx hb dT_spin_66 rfl (lv_at hl 5 rfl) ?_
  refine ln_iadd hx hb dT_spin_67 ?_
  refine lv_iload hx hb dT_spin_68 (lv_at hl 0 rfl) ?_
  refine ln_iast (L := 12) hx hb hE hI hP hS k 0 (hk) (fk _) rfl (by omega) (by decide) (upd (M_4 k) ((4 * j) + j) (jsin (a + nI 1024))) (fk _) dT_spin_70 (fun M_5 H locs eM_5 hP hS => ?_)
  exact W.vret hx hb hr (fun t ht hW => ⟨⟨M_5, rfl, by rw [eM_5, eM_4, eM_3, eM_2, eM_1]; unfold jspin; simp only [va_up_self, bx_uu], by show va_P _ _ _ t.heap; rw [ht]; exact hP⟩, hS.F ht⟩) hS.2.2 dT_spin_71

set_option maxHeartbeats 4000000 in
set_option maxRecDepth 100000 in
/-- TURN of the document, into the matrix whole -/
theorem kT_turnOf (l : Launch) (D : va_G) (cs : Nat → ClassId) (ad : Nat → Nat) (hI : bw_I ad 162) (M : Nat → Nat → Int32) (sz : Nat) (k : Nat) (hk : k < 157) (fk : sc9 cs ad k) (hz : sTZ M)  : Met l yT_turnOf (wc yT_turnOf cT_turnOf 2 (some (.array .int))) ({ frames := 4, cells := 0, slots := 0, locals := 88 } : Room) (va_Pc [.ref (ad 156), .ref (ad k)] (sP D cs ad M sz)) (bQr D ad 162 (sc_cell cs ad) sz (ad 161) (fun M1 => (∀ q, q < 157 → M1 q = M q) ∧ sTZ M1 ∧ ∀ t, t < 12 → M1 161 t = jturn (M k 3) (M k 4) (M k 5) t)) 0 0 (bw_A ad 162 sz) := by
  refine Met.ofW (cc := cT_turnOf) (maxL := 2) (ret := (some (.array .int))) (by decide +kernel) rfl ?_
  intro p e s m args below meth c s₁ B hml hv
  obtain ⟨rfl, hsz, hP, hE⟩ := hv
  subst hsz
  have hx := B.exec
  have hb := B.bytes
  have hr := B.returns
  have hts : ∀ w9 ∈ ws_all, w9.before ([.ref (ad 156), .ref (ad k)] : List Value).toArray s = true := fun w9 h => atoms_spec (ws := (wc yT_turnOf cT_turnOf 2 (some (.array .int)))) B.pre w9 (List.mem_cons_of_mem _ h)
  have hown : s.vm.findClass RT = some m.cls := findClass_of_methodNamed B.named
  have hlocks := B.notSynchronized
  have hS : va_S (bw_A ad 162 s.heap.size) s.heap s.heap [] := va_S.rf
  have hl := lv_entry ([.ref (ad 156), .ref (ad k)]) (n := 2) (Nat.le_of_ble_eq_true rfl)
  rw [lg_entry_eq]
  generalize (lg_sl ([.ref (ad 156), .ref (ad k)]) ++ List.replicate (2 - (lg_sl ([.ref (ad 156), .ref (ad k)])).length) Slot.unset).toArray = ls at hl ⊢
  have hl : lv_has ls 2 [(0, .ref (ad 156)), (1, .ref (ad k))] := hl
  refine lv_aload_n hx hb dT_turnOf_0 rfl (lv_at hl 0 rfl) ?_
  refine bw_get (own := RT) (ci := 0) (C := RT) (T := TT) (N := 5) (v := .ref (ad 157)) hx hb hts inT hown hE hP 156 (by decide) rfl rfl 0 (by decide) w_26 rfl rfl dT_turnOf_1 ?_
  refine lv_iconst (v := nI 1) hx hb dT_turnOf_4 (by decide) ?_
  refine lv_iconst (v := nI 2) hx hb dT_turnOf_5 (by decide) ?_
  refine lv_aload_n hx hb dT_turnOf_6 rfl (lv_at hl 1 rfl) ?_
  refine lv_iconst (v := nI 3) hx hb dT_turnOf_7 (by decide) ?_
  refine ln_iald (L := 9) (g := (M k)) hx hb hE hP k 0 (by omega) (fk _) rfl (by omega) (by decide) dT_turnOf_8 ?_
  refine bc_callv (bc_runS (own := RT) (As := [.ref (ad 157), .int (nI 1), .int (nI 2), .int (M k 3)]) (rest := []) hx hb (hml.trans hl.1.symm) hown hts (kT_spin l D cs ad hI M s.heap.size 157 1 2 (by decide) (fun _ => rfl) (by decide) (by decide) (by decide) (M k 3)) w_54 w_52 w_53 w_2 hd_T_spin rfl ⟨rfl, rfl⟩ ⟨Nat.le_of_ble_eq_true rfl, Nat.le_of_ble_eq_true rfl⟩ (fun _ _ _ _ h => h.calling) (fun U hU hW => ⟨by rw [hU], by rw [hU]; exact hP, hE.warm hW⟩) rfl (Nat.le_of_ble_eq_true rfl) dT_turnOf_9 ⟨Nat.le_of_ble_eq_true rfl, Nat.le_of_ble_eq_true rfl⟩) hS (fun M_1 H locs hr_9 hP hS => ?_)
  refine lv_aload_n hx hb dT_turnOf_12 rfl (lv_at hl 0 rfl) ?_
  refine bw_get (own := RT) (ci := 0) (C := RT) (T := TT) (N := 5) (v := .ref (ad 158)) hx hb hts inT hown hE hP 156 (by decide) rfl rfl 1 (by decide) w_27 rfl rfl dT_turnOf_13 ?_
  refine lv_iconst (v := nI 2) hx hb dT_turnOf_16 (by decide) ?_
  refine lv_iconst (v := nI 0) hx hb dT_turnOf_17 (by decide) ?_
  refine lv_aload_n hx hb dT_turnOf_18 rfl (lv_at hl 1 rfl) ?_
  refine lv_iconst (v := nI 4) hx hb dT_turnOf_19 (by decide) ?_
  refine ln_iald (L := 9) (g := (M_1 k)) hx hb hE hP k 0 (by omega) (fk _) rfl (by omega) (by decide) dT_turnOf_20 ?_
  refine bc_callv (bc_runS (own := RT) (As := [.ref (ad 158), .int (nI 2), .int (nI 0), .int (M_1 k 4)]) (rest := []) hx hb (hml.trans hl.1.symm) hown hts (kT_spin l D cs ad hI M_1 H.size 158 2 0 (by decide) (fun _ => rfl) (by decide) (by decide) (by decide) (M_1 k 4)) w_54 w_52 w_53 w_2 hd_T_spin rfl ⟨rfl, rfl⟩ ⟨Nat.le_of_ble_eq_true rfl, Nat.le_of_ble_eq_true rfl⟩ (fun _ _ _ _ h => h.calling) (fun U hU hW => ⟨by rw [hU], by rw [hU]; exact hP, hE.warm hW⟩) rfl (Nat.le_of_ble_eq_true rfl) dT_turnOf_21 ⟨Nat.le_of_ble_eq_true rfl, Nat.le_of_ble_eq_true rfl⟩) hS (fun M_2 H locs hr_21 hP hS => ?_)
  refine lv_aload_n hx hb dT_turnOf_24 rfl (lv_at hl 0 rfl) ?_
  refine bw_get (own := RT) (ci := 0) (C := RT) (T := TT) (N := 5) (v := .ref (ad 159)) hx hb hts inT hown hE hP 156 (by decide) rfl rfl 2 (by decide) w_28 rfl rfl dT_turnOf_25 ?_
  refine lv_iconst (v := nI 0) hx hb dT_turnOf_28 (by decide) ?_
  refine lv_iconst (v := nI 1) hx hb dT_turnOf_29 (by decide) ?_
  refine lv_aload_n hx hb dT_turnOf_30 rfl (lv_at hl 1 rfl) ?_
  refine lv_iconst (v := nI 5) hx hb dT_turnOf_31 (by decide) ?_
  refine ln_iald (L := 9) (g := (M_2 k)) hx hb hE hP k 0 (by omega) (fk _) rfl (by omega) (by decide) dT_turnOf_32 ?_
  refine bc_callv (bc_runS (own := RT) (As := [.ref (ad 159), .int (nI 0), .int (nI 1), .int (M_2 k 5)]) (rest := []) hx hb (hml.trans hl.1.symm) hown hts (kT_spin l D cs ad hI M_2 H.size 159 0 1 (by decide) (fun _ => rfl) (by decide) (by decide) (by decide) (M_2 k 5)) w_54 w_52 w_53 w_2 hd_T_spin rfl ⟨rfl, rfl⟩ ⟨Nat.le_of_ble_eq_true rfl, Nat.le_of_ble_eq_true rfl⟩ (fun _ _ _ _ h => h.calling) (fun U hU hW => ⟨by rw [hU], by rw [hU]; exact hP, hE.warm hW⟩) rfl (Nat.le_of_ble_eq_true rfl) dT_turnOf_33 ⟨Nat.le_of_ble_eq_true rfl, Nat.le_of_ble_eq_true rfl⟩) hS (fun M_3 H locs hr_33 hP hS => ?_)
  refine lv_aload_n hx hb dT_turnOf_36 rfl (lv_at hl 0 rfl) ?_
  refine bw_get (own := RT) (ci := 0) (C := RT) (T := TT) (N := 5) (v := .ref (ad 158)) hx hb hts inT hown hE hP 156 (by decide) rfl rfl 1 (by decide) w_27 rfl rfl dT_turnOf_37 ?_
  refine lv_aload_n hx hb dT_turnOf_40 rfl (lv_at hl 0 rfl) ?_
  refine bw_get (own := RT) (ci := 0) (C := RT) (T := TT) (N := 5) (v := .ref (ad 157)) hx hb hts inT hown hE hP 156 (by decide) rfl rfl 0 (by decide) w_26 rfl rfl dT_turnOf_41 ?_
  refine lv_aload_n hx hb dT_turnOf_44 rfl (lv_at hl 0 rfl) ?_
  refine bw_get (own := RT) (ci := 0) (C := RT) (T := TT) (N := 5) (v := .ref (ad 160)) hx hb hts inT hown hE hP 156 (by decide) rfl rfl 3 (by decide) w_29 rfl rfl dT_turnOf_45 ?_
  refine bc_callv (bc_runSN (own := RT) (host := RS) (As := [.ref (ad 158), .ref (ad 157), .ref (ad 160)]) (rest := []) hx hb (hml.trans hl.1.symm) hown hts (kS_multiply l D cs ad hI M_3 H.size 158 157 160 (by decide) (by decide) (by decide) (fun _ => rfl) (fun _ => rfl) (fun _ => rfl) (by decide) (by decide)) w_70 (hE.2 _ nst_31) w_69 w_1 hd_S_multiply rfl ⟨rfl, rfl⟩ ⟨Nat.le_of_ble_eq_true rfl, Nat.le_of_ble_eq_true rfl⟩ (fun _ _ _ _ h => h.calling) (fun U hU hW => ⟨by rw [hU], by rw [hU]; exact hP, hE.warm hW⟩) rfl (Nat.le_of_ble_eq_true rfl) dT_turnOf_48 ⟨Nat.le_of_ble_eq_true rfl, Nat.le_of_ble_eq_true rfl⟩) hS (fun M_4 H locs hr_48 hP hS => ?_)
  refine lv_aload_n hx hb dT_turnOf_51 rfl (lv_at hl 0 rfl) ?_
  refine bw_get (own := RT) (ci := 0) (C := RT) (T := TT) (N := 5) (v := .ref (ad 160)) hx hb hts inT hown hE hP 156 (by decide) rfl rfl 3 (by decide) w_29 rfl rfl dT_turnOf_52 ?_
  refine lv_aload_n hx hb dT_turnOf_55 rfl (lv_at hl 0 rfl) ?_
  refine bw_get (own := RT) (ci := 0) (C := RT) (T := TT) (N := 5) (v := .ref (ad 159)) hx hb hts inT hown hE hP 156 (by decide) rfl rfl 2 (by decide) w_28 rfl rfl dT_turnOf_56 ?_
  refine lv_aload_n hx hb dT_turnOf_59 rfl (lv_at hl 0 rfl) ?_
  refine bw_get (own := RT) (ci := 0) (C := RT) (T := TT) (N := 5) (v := .ref (ad 161)) hx hb hts inT hown hE hP 156 (by decide) rfl rfl 4 (by decide) w_30 rfl rfl dT_turnOf_60 ?_
  refine bc_callv (bc_runSN (own := RT) (host := RS) (As := [.ref (ad 160), .ref (ad 159), .ref (ad 161)]) (rest := []) hx hb (hml.trans hl.1.symm) hown hts (kS_multiply l D cs ad hI M_4 H.size 160 159 161 (by decide) (by decide) (by decide) (fun _ => rfl) (fun _ => rfl) (fun _ => rfl) (by decide) (by decide)) w_70 (hE.2 _ nst_31) w_69 w_1 hd_S_multiply rfl ⟨rfl, rfl⟩ ⟨Nat.le_of_ble_eq_true rfl, Nat.le_of_ble_eq_true rfl⟩ (fun _ _ _ _ h => h.calling) (fun U hU hW => ⟨by rw [hU], by rw [hU]; exact hP, hE.warm hW⟩) rfl (Nat.le_of_ble_eq_true rfl) dT_turnOf_63 ⟨Nat.le_of_ble_eq_true rfl, Nat.le_of_ble_eq_true rfl⟩) hS (fun M_5 H locs hr_63 hP hS => ?_)
  refine lv_aload_n hx hb dT_turnOf_66 rfl (lv_at hl 0 rfl) ?_
  refine bw_get (own := RT) (ci := 0) (C := RT) (T := TT) (N := 5) (v := .ref (ad 161)) hx hb hts inT hown hE hP 156 (by decide) rfl rfl 4 (by decide) w_30 rfl rfl dT_turnOf_67 ?_
  exact W.aret (v := .ref (ad 161)) hx hb hr (Or.inr ⟨_, rfl⟩) (Or.inr ⟨_, rfl⟩) (fun t ht hW => ⟨⟨M_5, _, rfl, turn_done hk hz hr_9 hr_21 hr_33 hr_48 hr_63, rfl, by show va_P _ _ _ t.heap; rw [ht]; exact hP⟩, hS.F ht⟩) hS.2.2 dT_turnOf_70

set_option maxHeartbeats 4000000 in
set_option maxRecDepth 100000 in
/-- LOCAL of a node, into its row -/
theorem kS_refreshLocal (l : Launch) (D : va_G) (cs : Nat → ClassId) (ad : Nat → Nat) (hI : bw_I ad 162) (M : Nat → Nat → Int32) (sz : Nat) (d : Nat) (hd : d < 48) (hz : sTZ M)  : Met l yS_refreshLocal (wc yS_refreshLocal cS_refreshLocal 8 none) ({ frames := 5, cells := 0, slots := 0, locals := 109 } : Room) (va_Pc [.ref (ad 0), .int (nI d)] (sP D cs ad M sz)) (bQv D ad 162 (sc_cell cs ad) sz (fun M1 => (∀ q, q < 157 → q ≠ 54 + d → M1 q = M q) ∧ sTZ M1 ∧ ∀ t, t < 12 → M1 (54 + d) t = jlocal (M (5 + d)) t)) 0 0 (bw_A ad 162 sz) := by
  refine Met.ofW (cc := cS_refreshLocal) (maxL := 8) (ret := none) (by decide +kernel) rfl ?_
  intro p e s m args below meth c s₁ B hml hv
  obtain ⟨rfl, hsz, hP, hE⟩ := hv
  subst hsz
  have hx := B.exec
  have hb := B.bytes
  have hr := B.returns
  have hts : ∀ w9 ∈ ws_all, w9.before ([.ref (ad 0), .int (nI d)] : List Value).toArray s = true := fun w9 h => atoms_spec (ws := (wc yS_refreshLocal cS_refreshLocal 8 none)) B.pre w9 (List.mem_cons_of_mem _ h)
  have hown : s.vm.findClass RS = some m.cls := findClass_of_methodNamed B.named
  have hlocks := B.notSynchronized
  have hS : va_S (bw_A ad 162 s.heap.size) s.heap s.heap [] := va_S.rf
  have hl := lv_entry ([.ref (ad 0), .int (nI d)]) (n := 8) (Nat.le_of_ble_eq_true rfl)
  rw [lg_entry_eq]
  generalize (lg_sl ([.ref (ad 0), .int (nI d)]) ++ List.replicate (8 - (lg_sl ([.ref (ad 0), .int (nI d)])).length) Slot.unset).toArray = ls at hl ⊢
  have hl : lv_has ls 8 [(0, .ref (ad 0)), (1, .int (nI d))] := hl
  refine lv_aload_n hx hb dS_refreshLocal_0 rfl (lv_at hl 0 rfl) ?_
  refine bw_get (own := RS) (ci := 1) (C := RS) (T := TS) (N := 14) (v := .ref (ad 4)) hx hb hts inS hown hE hP 0 (by decide) rfl rfl 4 (by decide) w_92 rfl rfl dS_refreshLocal_1 ?_
  refine lv_iload_n hx hb dS_refreshLocal_4 rfl (lv_at hl 1 rfl) ?_
  refine ln_aald (L := 48) hx hb hE hP 4 2 (by decide) (rfl) rfl (by omega) (by decide) (a := ad (5 + d)) (by first | rfl | (show (if _ then _ else _) = _; rw [if_pos (by omega)])) dS_refreshLocal_5 ?_
  refine lv_astore_n (lv' := [(2, .ref (ad (5 + d))), (0, .ref (ad 0)), (1, .int (nI d))]) hx hb dS_refreshLocal_6 rfl hl (by decide) rfl (fun ls hl => ?_)
  refine lv_aload_n hx hb dS_refreshLocal_7 rfl (lv_at hl 1 rfl) ?_
  refine bw_get (own := RS) (ci := 1) (C := RS) (T := TS) (N := 14) (v := .ref (ad 53)) hx hb hts inS hown hE hP 0 (by decide) rfl rfl 5 (by decide) w_93 rfl rfl dS_refreshLocal_8 ?_
  refine lv_iload_n hx hb dS_refreshLocal_11 rfl (lv_at hl 2 rfl) ?_
  refine ln_aald (L := 48) hx hb hE hP 53 2 (by decide) (rfl) rfl (by omega) (by decide) (a := ad (54 + d)) (by first | rfl | (show (if _ then _ else _) = _; rw [if_pos (by omega)])) dS_refreshLocal_12 ?_
  refine lv_astore_n (lv' := [(3, .ref (ad (54 + d))), (2, .ref (ad (5 + d))), (0, .ref (ad 0)), (1, .int (nI d))]) hx hb dS_refreshLocal_13 rfl hl (by decide) rfl (fun ls hl => ?_)
  refine lv_aload_n hx hb dS_refreshLocal_14 rfl (lv_at hl 2 rfl) ?_
  refine bw_get (own := RS) (ci := 1) (C := RS) (T := TS) (N := 14) (v := .ref (ad 156)) hx hb hts inS hown hE hP 0 (by decide) rfl rfl 13 (by decide) w_101 rfl rfl dS_refreshLocal_15 ?_
  refine lv_aload_n hx hb dS_refreshLocal_18 rfl (lv_at hl 1 rfl) ?_
  refine bc_callr (bc_runVN (own := RS) (C := RT) (host := RS) (As := [.ref (ad (5 + d))]) (rest := []) hx hb (hml.trans hl.1.symm) hown hts (kT_turnOf l D cs ad hI M s.heap.size (5 + d) (by omega) (fun _ => sc_row5 hd) hz) w_51 (hE.2 _ nst_118) w_50 ws_sel_T_turnOf w_2 hd_T_turnOf rfl ⟨rfl, rfl⟩ ⟨Nat.le_of_ble_eq_true rfl, Nat.le_of_ble_eq_true rfl⟩ (fun _ _ _ _ h => h.calling) (bc_recv (r := (RT, TT, 5)) hE hP 156 (by decide) rfl rfl) (fun U hU hW => ⟨by rw [hU], by rw [hU]; exact hP, hE.warm hW⟩) rfl (Nat.le_of_ble_eq_true rfl) dS_refreshLocal_19 ⟨Nat.le_of_ble_eq_true rfl, Nat.le_of_ble_eq_true rfl⟩) hS (fun M_1 H locs hr_19 hP hS => ?_)
  refine lv_astore (lv' := [(4, .ref (ad 161)), (3, .ref (ad (54 + d))), (2, .ref (ad (5 + d))), (0, .ref (ad 0)), (1, .int (nI d))]) hx hb dS_refreshLocal_22 hl (by decide) rfl (fun ls hl => ?_)
  refine lv_iconst (v := nI 0) hx hb dS_refreshLocal_24 (by decide) ?_
  refine lv_istore (lv' := [(5, .int (nI 0)), (4, .ref (ad 161)), (3, .ref (ad (54 + d))), (2, .ref (ad (5 + d))), (0, .ref (ad 0)), (1, .int (nI d))]) hx hb dS_refreshLocal_25 hl (by decide) rfl (fun ls hl => ?_)
  have loop : ∀ k : Nat, (∀ (i : Nat)  (M1 : Nat → Nat → Int32) (H : Heap) (locs : List Loc) (ls : Array Slot), i ≤ 3 → mfill M_1 M1 (54 + d) (4 * i) (jlc (M_1 161) (M_1 (5 + d))) → 6 * (3 - i) < k → va_P D cls3 (bw ad 162 (fun j => sc_cell cs ad j (M1 j))) H → va_S (bw_A ad 162 s.heap.size) s.heap H locs → lv_has ls 8 [(5, .int (nI i)), (0, .ref (ad 0)), (1, .int (nI d)), (2, .ref (ad (5 + d))), (3, .ref (ad (54 + d))), (4, .ref (ad 161))] → W p l e (headSpec (wc yS_refreshLocal cS_refreshLocal 8 none) ({ frames := 5, cells := 0, slots := 0, locals := 109 } : Room)).room s m ([.ref (ad 0), .int (nI d)] : List Value).toArray below meth c H locs 0 0 (MQ below (bQv D ad 162 (sc_cell cs ad) s.heap.size (fun M1 => (∀ q, q < 157 → q ≠ 54 + d → M1 q = M q) ∧ sTZ M1 ∧ ∀ t, t < 12 → M1 (54 + d) t = jlocal (M (5 + d)) t)) ([.ref (ad 0), .int (nI d)] : List Value).toArray s 0 0 (bw_A ad 162 s.heap.size)) (F0 m 27 ls [])) ∧ (∀ (i : Nat) (j : Nat)  (M1 : Nat → Nat → Int32) (H : Heap) (locs : List Loc) (ls : Array Slot), i < 3 → j ≤ 3 → mfill M_1 M1 (54 + d) (4 * i + j) (jlc (M_1 161) (M_1 (5 + d))) → 6 * (3 - i) - 1 - j < k → va_P D cls3 (bw ad 162 (fun j => sc_cell cs ad j (M1 j))) H → va_S (bw_A ad 162 s.heap.size) s.heap H locs → lv_has ls 8 [(5, .int (nI i)), (6, .int (nI j)), (0, .ref (ad 0)), (1, .int (nI d)), (2, .ref (ad (5 + d))), (3, .ref (ad (54 + d))), (4, .ref (ad 161))] → W p l e (headSpec (wc yS_refreshLocal cS_refreshLocal 8 none) ({ frames := 5, cells := 0, slots := 0, locals := 109 } : Room)).room s m ([.ref (ad 0), .int (nI d)] : List Value).toArray below meth c H locs 0 0 (MQ below (bQv D ad 162 (sc_cell cs ad) s.heap.size (fun M1 => (∀ q, q < 157 → q ≠ 54 + d → M1 q = M q) ∧ sTZ M1 ∧ ∀ t, t < 12 → M1 (54 + d) t = jlocal (M (5 + d)) t)) ([.ref (ad 0), .int (nI d)] : List Value).toArray s 0 0 (bw_A ad 162 s.heap.size)) (F0 m 36 ls [])) := by
    intro k
    induction k with
    | zero => exact ⟨by intros; omega, by intros; omega⟩
    | succ k ih =>
      refine ⟨?_, ?_⟩
      · skip
        intro i  M1 H locs ls hi hinv hmu hP hS hl
        refine lv_iload hx hb dS_refreshLocal_27 (lv_at hl 0 rfl) ?_
        refine lv_iconst (v := nI 3) hx hb dS_refreshLocal_29 (by decide) ?_
        refine ln_icmp_ge (tgt := 101) hx hb dS_refreshLocal_30 (by decide) (by omega) (by omega) (fun c_30 => ?_) (fun c_30 => ?_)
        · skip
          exact W.vret hx hb hr (fun t ht hW => ⟨⟨M1, rfl, ⟨fun q hq hne => (hinv.1 q hne).trans (hr_19.1 q hq), ⟨fun t ht => by rw [hinv.1 157 (by omega)]; exact hr_19.2.1.1 t ht, fun t ht => by rw [hinv.1 158 (by omega)]; exact hr_19.2.1.2.1 t ht, fun t ht => by rw [hinv.1 159 (by omega)]; exact hr_19.2.1.2.2 t ht⟩, fun t ht => by rw [mfill.done (hinv.le (by omega)) ht]; exact jlc_congr hr_19.2.2 (fun u _ => by rw [hr_19.1 (5 + d) (by omega)]) (by omega) (by omega)⟩, by show va_P _ _ _ t.heap; rw [ht]; exact hP⟩, hS.F ht⟩) hS.2.2 dS_refreshLocal_101
        · skip
          refine lv_iconst (v := nI 0) hx hb dS_refreshLocal_33 (by decide) ?_
          refine lv_istore (lv' := [(6, .int (nI 0)), (5, .int (nI i)), (0, .ref (ad 0)), (1, .int (nI d)), (2, .ref (ad (5 + d))), (3, .ref (ad (54 + d))), (4, .ref (ad 161))]) hx hb dS_refreshLocal_34 hl (by decide) rfl (fun ls hl => ?_)
          exact ih.2 i 0  M1 H locs ls (by omega) (by omega) (hinv) (by omega) hP hS (lv_sub hl [1, 0, 2, 3, 4, 5, 6] rfl)
      · skip
        intro i j  M1 H locs ls hi hj0 hinv hmu hP hS hl
        refine lv_iload hx hb dS_refreshLocal_36 (lv_at hl 1 rfl) ?_
        refine lv_iconst (v := nI 3) hx hb dS_refreshLocal_38 (by decide) ?_
        refine ln_icmp_ge (tgt := 81) hx hb dS_refreshLocal_39 (by decide) (by omega) (by omega) (fun c_39 => ?_) (fun c_39 => ?_)
        · skip
          have hj3 : j = 3 := by omega
          rw [hj3] at hinv
          refine lv_aload_n hx hb dS_refreshLocal_81 rfl (lv_at hl 5 rfl) ?_
          refine lv_iconst (v := nI 4) hx hb dS_refreshLocal_82 (by decide) ?_
          refine lv_iload hx hb dS_refreshLocal_83 (lv_at hl 0 rfl) ?_
          refine ln_imul hx hb dS_refreshLocal_85 ?_
          refine lv_iconst (v := nI 3) hx hb dS_refreshLocal_86 (by decide) ?_
          refine ln_iadd hx hb dS_refreshLocal_87 ?_
          refine lv_aload_n hx hb dS_refreshLocal_88 rfl (lv_at hl 4 rfl) ?_
          refine lv_iconst (v := nI 0) hx hb dS_refreshLocal_89 (by decide) ?_
          refine lv_iload hx hb dS_refreshLocal_90 (lv_at hl 0 rfl) ?_
          refine ln_iadd hx hb dS_refreshLocal_92 ?_
          refine ln_iald (L := 9) (g := (M1 (5 + d))) hx hb hE hP (5 + d) 0 (by omega) (sc_row5 (by omega)) rfl (by omega) (by decide) dS_refreshLocal_93 ?_
          refine ln_iast (L := 12) hx hb hE hI hP hS (54 + d) 0 (by omega) (sc_row54 (by omega)) rfl (by omega) (by decide) (upd (M1 (54 + d)) ((4 * i) + 3) (M1 (5 + d) (0 + i))) (sc_row54 (by omega)) dS_refreshLocal_94 (fun M_2 H locs eM_2 hP hS => ?_)
          refine lv_iinc (v := nI (i + 1)) (lv' := [(5, .int (nI (i + 1))), (6, .int (nI j)), (0, .ref (ad 0)), (1, .int (nI d)), (2, .ref (ad (5 + d))), (3, .ref (ad (54 + d))), (4, .ref (ad 161))]) hx hb dS_refreshLocal_95 hl (k := 0) rfl (nI_add i 1) (by decide) rfl (fun ls hl => ?_)
          refine lv_goto (tgt := 27) hx hb dS_refreshLocal_98 (by decide) ?_
          exact ih.1 (i + 1)  M_2 H locs ls (by omega) (mfill.le (hinv.step eM_2 (by rw [hinv.1 (5 + d) (by omega)]; unfold jlc; rw [if_pos rfl]) (by decide)) (by omega)) (by omega) hP hS (lv_sub hl [0, 2, 3, 4, 5, 6] rfl)
        · skip
          refine lv_iconst (v := nI 4) hx hb dS_refreshLocal_42 (by decide) ?_
          refine lv_iload hx hb dS_refreshLocal_43 (lv_at hl 0 rfl) ?_
          refine ln_imul hx hb dS_refreshLocal_45 ?_
          refine lv_iload hx hb dS_refreshLocal_46 (lv_at hl 1 rfl) ?_
          refine ln_iadd hx hb dS_refreshLocal_48 ?_
          refine lv_istore (lv' := [(7, .int (nI ((4 * i) + j))), (5, .int (nI i)), (6, .int (nI j)), (0, .ref (ad 0)), (1, .int (nI d)), (2, .ref (ad (5 + d))), (3, .ref (ad (54 + d))), (4, .ref (ad 161))]) hx hb dS_refreshLocal_49 hl (by decide) rfl (fun ls hl => ?_)
          refine lv_aload_n hx hb dS_refreshLocal_51 rfl (lv_at hl 6 rfl) ?_
          refine lv_iload hx hb dS_refreshLocal_52 (lv_at hl 0 rfl) ?_
          refine lv_aload hx hb dS_refreshLocal_54 (lv_at hl 7 rfl) ?_
          refine lv_iload hx hb dS_refreshLocal_56 (lv_at hl 0 rfl) ?_
          refine ln_iald (L := 12) (g := (M1 161)) hx hb hE hP 161 0 (by decide) (rfl) rfl (by omega) (by decide) dS_refreshLocal_58 ?_
          refine lv_i2l (v := (M1 161 ((4 * i) + j)).toInt64) hx hb dS_refreshLocal_59 rfl ?_
          refine lv_aload_n hx hb dS_refreshLocal_60 rfl (lv_at hl 5 rfl) ?_
          refine lv_bipush (v := nI 6) hx hb dS_refreshLocal_61 (by decide) ?_
          refine lv_iload hx hb dS_refreshLocal_63 (lv_at hl 2 rfl) ?_
          refine ln_iadd hx hb dS_refreshLocal_65 ?_
          refine ln_iald (L := 9) (g := (M1 (5 + d))) hx hb hE hP (5 + d) 0 (by omega) (sc_row5 (by omega)) rfl (by omega) (by decide) dS_refreshLocal_66 ?_
          refine lv_i2l (v := (M1 (5 + d) (6 + j)).toInt64) hx hb dS_refreshLocal_67 rfl ?_
          refine vp_callSl (va_Run.run (bc_runS (own := RS) (As := [.long ((M1 161 ((4 * i) + j)).toInt64), .long ((M1 (5 + d) (6 + j)).toInt64)]) (rest := [.int (nI ((4 * i) + j)), .ref (ad (54 + d))]) hx hb (hml.trans hl.1.symm) hown hts (kS_mul l ((M1 161 ((4 * i) + j)).toInt64) ((M1 (5 + d) (6 + j)).toInt64)) w_76 w_74 w_75 w_1 hd_S_mul rfl ⟨rfl, rfl⟩ ⟨Nat.le_of_ble_eq_true rfl, Nat.le_of_ble_eq_true rfl⟩ (fun _ _ _ _ _ => trivial) (fun _ _ _ => trivial) rfl (Nat.le_of_ble_eq_true rfl) dS_refreshLocal_68 ⟨Nat.le_of_ble_eq_true rfl, Nat.le_of_ble_eq_true rfl⟩)) (fun r_68 hr_68 => ?_)
          refine ln_asl (jmul (M1 161 (4 * i + j)).toInt64 (M1 (5 + d) (6 + j)).toInt64) (by exact hr_68) ?_
          refine vp_callSi (va_Run.run (bc_runS (own := RS) (As := [.long (jmul (M1 161 (4 * i + j)).toInt64 (M1 (5 + d) (6 + j)).toInt64)]) (rest := [.int (nI ((4 * i) + j)), .ref (ad (54 + d))]) hx hb (hml.trans hl.1.symm) hown hts (kS_bound l (jmul (M1 161 (4 * i + j)).toInt64 (M1 (5 + d) (6 + j)).toInt64)) w_79 w_77 w_78 w_1 hd_S_bound rfl ⟨rfl, rfl⟩ ⟨Nat.le_of_ble_eq_true rfl, Nat.le_of_ble_eq_true rfl⟩ (fun _ _ _ _ _ => trivial) (fun _ _ _ => trivial) rfl (Nat.le_of_ble_eq_true rfl) dS_refreshLocal_71 ⟨Nat.le_of_ble_eq_true rfl, Nat.le_of_ble_eq_true rfl⟩)) (fun r_71 hr_71 => ?_)
          refine ln_iast (L := 12) hx hb hE hI hP hS (54 + d) 0 (by omega) (sc_row54 (by omega)) rfl (by omega) (by decide) (upd (M1 (54 + d)) ((4 * i) + j) r_71) (sc_row54 (by omega)) dS_refreshLocal_74 (fun M_3 H locs eM_3 hP hS => ?_)
          refine lv_iinc (v := nI (j + 1)) (lv' := [(6, .int (nI (j + 1))), (7, .int (nI ((4 * i) + j))), (5, .int (nI i)), (0, .ref (ad 0)), (1, .int (nI d)), (2, .ref (ad (5 + d))), (3, .ref (ad (54 + d))), (4, .ref (ad 161))]) hx hb dS_refreshLocal_75 hl (k := 2) rfl (nI_add j 1) (by decide) rfl (fun ls hl => ?_)
          refine lv_goto (tgt := 36) hx hb dS_refreshLocal_78 (by decide) ?_
          exact ih.2 i (j + 1)  M_3 H locs ls (by omega) (by omega) (hinv.step eM_3 (by rw [hr_71, hinv.1 161 (by omega), hinv.1 (5 + d) (by omega)]; unfold jlc; rw [if_neg (by omega)]) (by omega)) (by omega) hP hS (lv_sub hl [2, 0, 3, 4, 5, 6, 7] rfl)
  exact (loop 100000).1 0  M_1 H locs ls (by omega) (mfill.zero) (by omega) hP hS (lv_sub hl [0, 4, 5, 3, 2, 1] rfl)

set_option maxHeartbeats 4000000 in
set_option maxRecDepth 100000 in
/-- VIEW -/
theorem kS_refreshView (l : Launch) (D : va_G) (cs : Nat → ClassId) (ad : Nat → Nat) (hI : bw_I ad 162) (M : Nat → Nat → Int32) (sz : Nat) (hz : sTZ M)  : Met l yS_refreshView (wc yS_refreshView cS_refreshView 7 none) ({ frames := 5, cells := 0, slots := 0, locals := 109 } : Room) (va_Pc [.ref (ad 0)] (sP D cs ad M sz)) (bQv D ad 162 (sc_cell cs ad) sz (fun M1 => (∀ q, q < 157 → q ≠ 152 → M1 q = M q) ∧ sTZ M1 ∧ ∀ t, t < 12 → M1 152 t = jview (M 151) t)) 0 0 (bw_A ad 162 sz) := by
  refine Met.ofW (cc := cS_refreshView) (maxL := 7) (ret := none) (by decide +kernel) rfl ?_
  intro p e s m args below meth c s₁ B hml hv
  obtain ⟨rfl, hsz, hP, hE⟩ := hv
  subst hsz
  have hx := B.exec
  have hb := B.bytes
  have hr := B.returns
  have hts : ∀ w9 ∈ ws_all, w9.before ([.ref (ad 0)] : List Value).toArray s = true := fun w9 h => atoms_spec (ws := (wc yS_refreshView cS_refreshView 7 none)) B.pre w9 (List.mem_cons_of_mem _ h)
  have hown : s.vm.findClass RS = some m.cls := findClass_of_methodNamed B.named
  have hlocks := B.notSynchronized
  have hS : va_S (bw_A ad 162 s.heap.size) s.heap s.heap [] := va_S.rf
  have hl := lv_entry ([.ref (ad 0)]) (n := 7) (Nat.le_of_ble_eq_true rfl)
  rw [lg_entry_eq]
  generalize (lg_sl ([.ref (ad 0)]) ++ List.replicate (7 - (lg_sl ([.ref (ad 0)])).length) Slot.unset).toArray = ls at hl ⊢
  have hl : lv_has ls 7 [(0, .ref (ad 0))] := hl
  refine lv_aload_n hx hb dS_refreshView_0 rfl (lv_at hl 0 rfl) ?_
  refine bw_get (own := RS) (ci := 1) (C := RS) (T := TS) (N := 14) (v := .ref (ad 156)) hx hb hts inS hown hE hP 0 (by decide) rfl rfl 13 (by decide) w_101 rfl rfl dS_refreshView_1 ?_
  refine lv_aload_n hx hb dS_refreshView_4 rfl (lv_at hl 0 rfl) ?_
  refine bw_get (own := RS) (ci := 1) (C := RS) (T := TS) (N := 14) (v := .ref (ad 151)) hx hb hts inS hown hE hP 0 (by decide) rfl rfl 8 (by decide) w_96 rfl rfl dS_refreshView_5 ?_
  refine bc_callr (bc_runVN (own := RS) (C := RT) (host := RS) (As := [.ref (ad 151)]) (rest := []) hx hb (hml.trans hl.1.symm) hown hts (kT_turnOf l D cs ad hI M s.heap.size 151 (by decide) (fun _ => rfl) hz) w_51 (hE.2 _ nst_118) w_50 ws_sel_T_turnOf w_2 hd_T_turnOf rfl ⟨rfl, rfl⟩ ⟨Nat.le_of_ble_eq_true rfl, Nat.le_of_ble_eq_true rfl⟩ (fun _ _ _ _ h => h.calling) (bc_recv (r := (RT, TT, 5)) hE hP 156 (by decide) rfl rfl) (fun U hU hW => ⟨by rw [hU], by rw [hU]; exact hP, hE.warm hW⟩) rfl (Nat.le_of_ble_eq_true rfl) dS_refreshView_8 ⟨Nat.le_of_ble_eq_true rfl, Nat.le_of_ble_eq_true rfl⟩) hS (fun M_1 H locs hr_8 hP hS => ?_)
  refine lv_astore_n (lv' := [(1, .ref (ad 161)), (0, .ref (ad 0))]) hx hb dS_refreshView_11 rfl hl (by decide) rfl (fun ls hl => ?_)
  refine lv_iconst (v := nI 0) hx hb dS_refreshView_12 (by decide) ?_
  refine lv_istore_n (lv' := [(2, .int (nI 0)), (1, .ref (ad 161)), (0, .ref (ad 0))]) hx hb dS_refreshView_13 rfl hl (by decide) rfl (fun ls hl => ?_)
  have loop : ∀ k : Nat, (∀ (i : Nat)  (M1 : Nat → Nat → Int32) (H : Heap) (locs : List Loc) (ls : Array Slot), i ≤ 3 → mfill M_1 M1 152 (4 * i) (jvc (M_1 161) (M_1 151)) → 6 * (3 - i) < k → va_P D cls3 (bw ad 162 (fun j => sc_cell cs ad j (M1 j))) H → va_S (bw_A ad 162 s.heap.size) s.heap H locs → lv_has ls 7 [(2, .int (nI i)), (0, .ref (ad 0)), (1, .ref (ad 161))] → W p l e (headSpec (wc yS_refreshView cS_refreshView 7 none) ({ frames := 5, cells := 0, slots := 0, locals := 109 } : Room)).room s m ([.ref (ad 0)] : List Value).toArray below meth c H locs 0 0 (MQ below (bQv D ad 162 (sc_cell cs ad) s.heap.size (fun M1 => (∀ q, q < 157 → q ≠ 152 → M1 q = M q) ∧ sTZ M1 ∧ ∀ t, t < 12 → M1 152 t = jview (M 151) t)) ([.ref (ad 0)] : List Value).toArray s 0 0 (bw_A ad 162 s.heap.size)) (F0 m 14 ls [])) ∧ (∀ (i : Nat) (j : Nat)  (M1 : Nat → Nat → Int32) (H : Heap) (locs : List Loc) (ls : Array Slot), i < 3 → j ≤ 3 → mfill M_1 M1 152 (4 * i + j) (jvc (M_1 161) (M_1 151)) → 6 * (3 - i) - 1 - j < k → va_P D cls3 (bw ad 162 (fun j => sc_cell cs ad j (M1 j))) H → va_S (bw_A ad 162 s.heap.size) s.heap H locs → lv_has ls 7 [(2, .int (nI i)), (5, .int (nI j)), (0, .ref (ad 0)), (1, .ref (ad 161)), (3, .long (jal (M_1 161) (M_1 151) i j))] → W p l e (headSpec (wc yS_refreshView cS_refreshView 7 none) ({ frames := 5, cells := 0, slots := 0, locals := 109 } : Room)).room s m ([.ref (ad 0)] : List Value).toArray below meth c H locs 0 0 (MQ below (bQv D ad 162 (sc_cell cs ad) s.heap.size (fun M1 => (∀ q, q < 157 → q ≠ 152 → M1 q = M q) ∧ sTZ M1 ∧ ∀ t, t < 12 → M1 152 t = jview (M 151) t)) ([.ref (ad 0)] : List Value).toArray s 0 0 (bw_A ad 162 s.heap.size)) (F0 m 24 ls [])) := by
    intro k
    induction k with
    | zero => exact ⟨by intros; omega, by intros; omega⟩
    | succ k ih =>
      refine ⟨?_, ?_⟩
      · skip
        intro i  M1 H locs ls hi hinv hmu hP hS hl
        refine lv_iload_n hx hb dS_refreshView_14 rfl (lv_at hl 0 rfl) ?_
        refine lv_iconst (v := nI 3) hx hb dS_refreshView_15 (by decide) ?_
        refine ln_icmp_ge (tgt := 104) hx hb dS_refreshView_16 (by decide) (by omega) (by omega) (fun c_16 => ?_) (fun c_16 => ?_)
        · skip
          exact W.vret hx hb hr (fun t ht hW => ⟨⟨M1, rfl, ⟨fun q hq hne => (hinv.1 q hne).trans (hr_8.1 q hq), ⟨fun t ht => by rw [hinv.1 157 (by omega)]; exact hr_8.2.1.1 t ht, fun t ht => by rw [hinv.1 158 (by omega)]; exact hr_8.2.1.2.1 t ht, fun t ht => by rw [hinv.1 159 (by omega)]; exact hr_8.2.1.2.2 t ht⟩, fun t ht => by rw [mfill.done (hinv.le (by omega)) ht]; exact jvc_congr hr_8.2.2 (fun u _ => by rw [hr_8.1 151 (by decide)]) (by omega) (by omega)⟩, by show va_P _ _ _ t.heap; rw [ht]; exact hP⟩, hS.F ht⟩) hS.2.2 dS_refreshView_104
        · skip
          refine lv_lconst (v := 0) hx hb dS_refreshView_19 (by decide) ?_
          refine lv_lstore_n (lv' := [(3, .long 0), (2, .int (nI i)), (0, .ref (ad 0)), (1, .ref (ad 161))]) hx hb dS_refreshView_20 rfl hl (by decide) rfl (fun ls hl => ?_)
          refine lv_iconst (v := nI 0) hx hb dS_refreshView_21 (by decide) ?_
          refine lv_istore (lv' := [(5, .int (nI 0)), (3, .long 0), (2, .int (nI i)), (0, .ref (ad 0)), (1, .ref (ad 161))]) hx hb dS_refreshView_22 hl (by decide) rfl (fun ls hl => ?_)
          exact ih.2 i 0  M1 H locs ls (by omega) (by omega) (hinv) (by omega) hP hS (lv_sub hl [2, 0, 3, 4, 1] rfl)
      · skip
        intro i j  M1 H locs ls hi hj0 hinv hmu hP hS hl
        refine lv_iload hx hb dS_refreshView_24 (lv_at hl 1 rfl) ?_
        refine lv_iconst (v := nI 3) hx hb dS_refreshView_26 (by decide) ?_
        refine ln_icmp_ge (tgt := 83) hx hb dS_refreshView_27 (by decide) (by omega) (by omega) (fun c_27 => ?_) (fun c_27 => ?_)
        · skip
          have hj3 : j = 3 := by omega
          rw [hj3] at hinv
          refine lv_aload_n hx hb dS_refreshView_83 rfl (lv_at hl 2 rfl) ?_
          refine bw_get (own := RS) (ci := 1) (C := RS) (T := TS) (N := 14) (v := .ref (ad 152)) hx hb hts inS hown hE hP 0 (by decide) rfl rfl 9 (by decide) w_97 rfl rfl dS_refreshView_84 ?_
          refine lv_iconst (v := nI 4) hx hb dS_refreshView_87 (by decide) ?_
          refine lv_iload_n hx hb dS_refreshView_88 rfl (lv_at hl 0 rfl) ?_
          refine ln_imul hx hb dS_refreshView_89 ?_
          refine lv_iconst (v := nI 3) hx hb dS_refreshView_90 (by decide) ?_
          refine ln_iadd hx hb dS_refreshView_91 ?_
          refine lv_lload_n hx hb dS_refreshView_92 rfl (lv_at hl 4 rfl) ?_
          refine lv_lneg hx hb dS_refreshView_93 ?_
          refine vp_callSi (va_Run.run (bc_runS (own := RS) (As := [.long (-(jal (M_1 161) (M_1 151) i j))]) (rest := [.int (nI ((4 * i) + 3)), .ref (ad 152)]) hx hb (hml.trans hl.1.symm) hown hts (kS_bound l (-(jal (M_1 161) (M_1 151) i j))) w_79 w_77 w_78 w_1 hd_S_bound rfl ⟨rfl, rfl⟩ ⟨Nat.le_of_ble_eq_true rfl, Nat.le_of_ble_eq_true rfl⟩ (fun _ _ _ _ _ => trivial) (fun _ _ _ => trivial) rfl (Nat.le_of_ble_eq_true rfl) dS_refreshView_94 ⟨Nat.le_of_ble_eq_true rfl, Nat.le_of_ble_eq_true rfl⟩)) (fun r_94 hr_94 => ?_)
          refine ln_iast (L := 12) hx hb hE hI hP hS 152 0 (by decide) (rfl) rfl (by omega) (by decide) (upd (M1 152) ((4 * i) + 3) r_94) (rfl) dS_refreshView_97 (fun M_2 H locs eM_2 hP hS => ?_)
          refine lv_iinc (v := nI (i + 1)) (lv' := [(2, .int (nI (i + 1))), (5, .int (nI j)), (0, .ref (ad 0)), (1, .ref (ad 161)), (3, .long (jal (M_1 161) (M_1 151) i j))]) hx hb dS_refreshView_98 hl (k := 0) rfl (nI_add i 1) (by decide) rfl (fun ls hl => ?_)
          refine lv_goto (tgt := 14) hx hb dS_refreshView_101 (by decide) ?_
          exact ih.1 (i + 1)  M_2 H locs ls (by omega) (mfill.le (hinv.step eM_2 (by rw [hr_94, hj3]; unfold jvc; rw [if_pos rfl]) (by decide)) (by omega)) (by omega) hP hS (lv_sub hl [0, 2, 3] rfl)
        · skip
          refine lv_iconst (v := nI 4) hx hb dS_refreshView_30 (by decide) ?_
          refine lv_iload_n hx hb dS_refreshView_31 rfl (lv_at hl 0 rfl) ?_
          refine ln_imul hx hb dS_refreshView_32 ?_
          refine lv_iload hx hb dS_refreshView_33 (lv_at hl 1 rfl) ?_
          refine ln_iadd hx hb dS_refreshView_35 ?_
          refine lv_istore (lv' := [(6, .int (nI ((4 * i) + j))), (2, .int (nI i)), (5, .int (nI j)), (0, .ref (ad 0)), (1, .ref (ad 161)), (3, .long (jal (M_1 161) (M_1 151) i j))]) hx hb dS_refreshView_36 hl (by decide) rfl (fun ls hl => ?_)
          refine lv_aload_n hx hb dS_refreshView_38 rfl (lv_at hl 3 rfl) ?_
          refine bw_get (own := RS) (ci := 1) (C := RS) (T := TS) (N := 14) (v := .ref (ad 152)) hx hb hts inS hown hE hP 0 (by decide) rfl rfl 9 (by decide) w_97 rfl rfl dS_refreshView_39 ?_
          refine lv_iload hx hb dS_refreshView_42 (lv_at hl 0 rfl) ?_
          refine lv_aload_n hx hb dS_refreshView_44 rfl (lv_at hl 4 rfl) ?_
          refine lv_iconst (v := nI 4) hx hb dS_refreshView_45 (by decide) ?_
          refine lv_iload hx hb dS_refreshView_46 (lv_at hl 2 rfl) ?_
          refine ln_imul hx hb dS_refreshView_48 ?_
          refine lv_iload_n hx hb dS_refreshView_49 rfl (lv_at hl 1 rfl) ?_
          refine ln_iadd hx hb dS_refreshView_50 ?_
          refine ln_iald (L := 12) (g := (M1 161)) hx hb hE hP 161 0 (by decide) (rfl) rfl (by omega) (by decide) dS_refreshView_51 ?_
          refine ln_iast (L := 12) hx hb hE hI hP hS 152 0 (by decide) (rfl) rfl (by omega) (by decide) (upd (M1 152) ((4 * i) + j) (M1 161 ((4 * j) + i))) (rfl) dS_refreshView_52 (fun M_3 H locs eM_3 hP hS => ?_)
          refine lv_lload_n hx hb dS_refreshView_53 rfl (lv_at hl 5 rfl) ?_
          refine lv_aload_n hx hb dS_refreshView_54 rfl (lv_at hl 3 rfl) ?_
          refine bw_get (own := RS) (ci := 1) (C := RS) (T := TS) (N := 14) (v := .ref (ad 152)) hx hb hts inS hown hE hP 0 (by decide) rfl rfl 9 (by decide) w_97 rfl rfl dS_refreshView_55 ?_
          refine lv_iload hx hb dS_refreshView_58 (lv_at hl 0 rfl) ?_
          refine ln_iald (L := 12) (g := (M_3 152)) hx hb hE hP 152 0 (by decide) (rfl) rfl (by omega) (by decide) dS_refreshView_60 ?_
          refine lv_i2l (v := (M_3 152 ((4 * i) + j)).toInt64) hx hb dS_refreshView_61 rfl ?_
          refine lv_aload_n hx hb dS_refreshView_62 rfl (lv_at hl 3 rfl) ?_
          refine bw_get (own := RS) (ci := 1) (C := RS) (T := TS) (N := 14) (v := .ref (ad 151)) hx hb hts inS hown hE hP 0 (by decide) rfl rfl 8 (by decide) w_96 rfl rfl dS_refreshView_63 ?_
          refine lv_iconst (v := nI 0) hx hb dS_refreshView_66 (by decide) ?_
          refine lv_iload hx hb dS_refreshView_67 (lv_at hl 2 rfl) ?_
          refine ln_iadd hx hb dS_refreshView_69 ?_
          refine ln_iald (L := 9) (g := (M_3 151)) hx hb hE hP 151 0 (by decide) (rfl) rfl (by omega) (by decide) dS_refreshView_70 ?_
          refine lv_i2l (v := (M_3 151 (0 + j)).toInt64) hx hb dS_refreshView_71 rfl ?_
          refine vp_callSl (va_Run.run (bc_runS (own := RS) (As := [.long ((M_3 152 ((4 * i) + j)).toInt64), .long ((M_3 151 (0 + j)).toInt64)]) (rest := [.long (jal (M_1 161) (M_1 151) i j)]) hx hb (hml.trans hl.1.symm) hown hts (kS_mul l ((M_3 152 ((4 * i) + j)).toInt64) ((M_3 151 (0 + j)).toInt64)) w_76 w_74 w_75 w_1 hd_S_mul rfl ⟨rfl, rfl⟩ ⟨Nat.le_of_ble_eq_true rfl, Nat.le_of_ble_eq_true rfl⟩ (fun _ _ _ _ _ => trivial) (fun _ _ _ => trivial) rfl (Nat.le_of_ble_eq_true rfl) dS_refreshView_72 ⟨Nat.le_of_ble_eq_true rfl, Nat.le_of_ble_eq_true rfl⟩)) (fun r_72 hr_72 => ?_)
          refine lv_ladd hx hb dS_refreshView_75 ?_
          refine ln_asl (jal (M_1 161) (M_1 151) i (j + 1)) (by rw [hr_72, eM_3, va_up_self, pk_us, va_up_ne _ _ (by decide), hinv.1 161 (by decide), hinv.1 151 (by decide)]; rfl) ?_
          refine lv_lstore_n (lv' := [(3, .long (jal (M_1 161) (M_1 151) i (j + 1))), (6, .int (nI ((4 * i) + j))), (2, .int (nI i)), (5, .int (nI j)), (0, .ref (ad 0)), (1, .ref (ad 161))]) hx hb dS_refreshView_76 rfl hl (by decide) rfl (fun ls hl => ?_)
          refine lv_iinc (v := nI (j + 1)) (lv' := [(5, .int (nI (j + 1))), (3, .long (jal (M_1 161) (M_1 151) i (j + 1))), (6, .int (nI ((4 * i) + j))), (2, .int (nI i)), (0, .ref (ad 0)), (1, .ref (ad 161))]) hx hb dS_refreshView_77 hl (k := 3) rfl (nI_add j 1) (by decide) rfl (fun ls hl => ?_)
          refine lv_goto (tgt := 24) hx hb dS_refreshView_80 (by decide) ?_
          exact ih.2 i (j + 1)  M_3 H locs ls (by omega) (by omega) (hinv.step eM_3 (by rw [hinv.1 161 (by decide)]; unfold jvc; rw [if_neg (by omega)]) (by omega)) (by omega) hP hS (lv_sub hl [3, 0, 4, 5, 1] rfl)
  exact (loop 100000).1 0  M_1 H locs ls (by omega) (mfill.zero) (by omega) hP hS (lv_sub hl [0, 2, 1] rfl)
