/-! WORLDS, WHO IS SEEN, THE ORDER (the class) -/
section BCP
variable {p : Program} {l : Launch} {e : Env} {R : Room} {s : State} {m : MethodId} {args : Array Value} {below : List Frame} {meth : Method} {c : Code} {H : Heap} {locs : List Loc} {cells slots : Nat} {Q : State → Prop}
variable {cc : ByteArray} {pc : Nat} {ls : Array Slot} {rest : List Value} {D : va_G} {tys : List (ClassId × FieldType)} {ad : Nat → Nat} {n : Nat}
theorem bw_copyi {ρ : Type} {cell : Nat → ρ → va_E} {M : Nat → ρ} (hx : p.tables.exec = Jvm.exec) (hb : c.code = cc) (hml : c.maxLocals = ls.size) {own : String} {index : Nat} (hown : s.vm.findClass own = some m.cls) (hlink : (Cond.methodLink own index arraycopyName).before args s = true) (hnat : (Cond.native arraycopyName).before args s = true) (hstat : (Cond.static arraycopyName).before args s = true) (hini : (Cond.initialized "java/lang/System").before args s = true)
    (hE : bE D tys s) (hI : bw_I ad n) (hP : va_P D cls3 (bw ad n (fun j => cell j (M j))) H) (hS : va_S (bw_A ad n s.heap.size) s.heap H locs) (q0 q1 t0 : Nat) (h0 : q0 < n) (h1 : q1 < n) {cA : ClassId} {L : Nat} {f g : Nat → Int32} (hf : cell q0 (M q0) = .inl (cA, L, .inl f)) (hg : cell q1 (M q1) = .inl (cA, L, .inl g)) (ht : tys[t0]? = some (cA, .int)) {k : Nat} (hk : k ≤ L) (hk2 : k < 2147483648) (r : ρ) (hr : cell q1 r = .inl (cA, L, .inl (va_cpy f g 0 0 k)))
    (hframes : 1 ≤ R.frames) (hlocals : (rest.map fun v => v.category).sum + (nativeFrameWords "java/lang/System" "arraycopy" 5 + 11) ≤ R.locals) (hdg : decode cc pc = .ok (.invokestatic index, 3))
    (kk : ∀ (M1 : Nat → ρ) (H1 : Heap) (locs1 : List Loc), M1 = va_up M q1 r → va_P D cls3 (bw ad n (fun j => cell j (M1 j))) H1 → va_S (bw_A ad n s.heap.size) s.heap H1 locs1 → W p l e R s m args below meth c H1 locs1 cells slots Q (F0 m (pc + 3) ls rest)) : W p l e R s m args below meth c H locs cells slots Q (F0 m pc ls (.int (nI k) :: .int (nI 0) :: .ref (ad q1) :: .int (nI 0) :: .ref (ad q0) :: rest)) := by
  have z0 : (nI 0).toNatClampNeg = 0 := nI_clamp (by decide)
  have zk : (nI k).toNatClampNeg = k := nI_clamp hk2
  refine va_copyi (ty := .int) hx hb hml hown hlink hnat hstat hini hE.1 hP (bw_D0 hI) hS q0 q1 t0 t0 (bw_at h0 hf) (bw_at h1 hg) ht ht rfl (by decide) (by decide) (nI_pos hk2) (by rw [z0, zk]; omega) (by rw [z0, zk]; omega) (fun _ _ => rfl) hframes hlocals hdg (fun H1 locs1 a1 _ a3 => ?_)
  rw [z0, zk, bw_set h1, ← hr, bw_up] at a1
  exact kk _ H1 locs1 rfl a1 a3
end BCP
/-- WORLD: f steps up at most -/
def jwf (par : Nat → Int32) (loc : Nat → Nat → Int32) : Nat → Nat → Nat → Int32
  | 0, n => loc n
  | f + 1, n => if par n < 0 then loc n else jmat (jwf par loc f (par n).toNatClampNeg) (loc n)
def jworld (par : Nat → Int32) (loc : Nat → Nat → Int32) (n : Nat) : Nat → Int32 := jwf par loc n n
/-- parents come first -/
def pOk (par : Nat → Int32) (N : Nat) : Prop := ∀ n, n < N → par n < 0 ∨ ∃ q, q < n ∧ par n = nI q
theorem jwf_more {par : Nat → Int32} {loc : Nat → Nat → Int32} {N : Nat} (hp : pOk par N) (hN : N < 2147483648) : ∀ f n, n < N → n ≤ f → jwf par loc f n = jwf par loc n n := by
  intro f
  induction f using Nat.strongRecOn with
  | _ f ih =>
    intro n hn hf
    cases f with
    | zero => have : n = 0 := by omega
              subst this; rfl
    | succ f =>
      cases n with
      | zero =>
        rcases hp 0 hn with h | ⟨q, hq, -⟩
        · show (if par 0 < 0 then _ else _) = _
          rw [if_pos h]; rfl
        · omega
      | succ n =>
        show (if par (n + 1) < 0 then _ else _) = (if par (n + 1) < 0 then _ else _)
        rcases hp (n + 1) hn with h | ⟨q, hq, h⟩
        · rw [if_pos h, if_pos h]
        · have hq0 : ¬ par (n + 1) < 0 := by rw [h]; exact nI_pos (by omega)
          rw [if_neg hq0, if_neg hq0, h, nI_clamp (by omega)]
          rw [ih f (by omega) q (by omega) (by omega)]
          by_cases hnf : n = f
          · subst hnf
            rw [ih n (by omega) q (by omega) (by omega)]
          · rw [ih n (by omega) q (by omega) (by omega)]
theorem jworld_root {par : Nat → Int32} {loc : Nat → Nat → Int32} {n : Nat} (h : par n < 0) : jworld par loc n = loc n := by
  unfold jworld
  cases n with
  | zero => rfl
  | succ n =>
    show (if par (n + 1) < 0 then _ else _) = _
    rw [if_pos h]
theorem jworld_at {par : Nat → Int32} {loc : Nat → Nat → Int32} {N n q : Nat} (hp : pOk par N) (hN : N < 2147483648) (hn : n < N) (hq : q < n) (h : par n = nI q) : jworld par loc n = jmat (jworld par loc q) (loc n) := by
  unfold jworld
  cases n with
  | zero => omega
  | succ n =>
    show (if par (n + 1) < 0 then _ else _) = _
    rw [if_neg (by rw [h]; exact nI_pos (by omega)), h, nI_clamp (by omega), jwf_more hp hN n q (by omega) (by omega)]
theorem jworld_congr {par par' : Nat → Int32} {loc loc' : Nat → Nat → Int32} {N : Nat} (hp : pOk par N) (hN : N < 2147483648) (hpar : ∀ n, n < N → par' n = par n) (hloc : ∀ n, n < N → ∀ t, t < 12 → loc' n t = loc n t) : ∀ n, n < N → ∀ t, t < 12 → jworld par' loc' n t = jworld par loc n t := by
  have hp' : pOk par' N := fun n hn => by rw [hpar n hn]; exact hp n hn
  intro n
  induction n using Nat.strongRecOn with
  | _ n ih =>
    intro hn t ht
    rcases hp n hn with h | ⟨q, hq, h⟩
    · rw [jworld_root h, jworld_root (by rw [hpar n hn]; exact h)]
      exact hloc n hn t ht
    · rw [jworld_at hp hN hn hq h, jworld_at hp' hN hn hq (by rw [hpar n hn]; exact h)]
      exact jprod_congr (ih q hq (by omega)) (hloc n hn) (by omega) (by omega)
/-- nobody on the way up is hidden -/
def jof (par hid : Nat → Int32) : Nat → Nat → Bool
  | 0, n => hid n == 0
  | f + 1, n => hid n == 0 && (decide (par n < 0) || jof par hid f (par n).toNatClampNeg)
def jopn (par hid : Nat → Int32) (n : Nat) : Bool := jof par hid n n
theorem jof_more {par hid : Nat → Int32} {N : Nat} (hp : pOk par N) (hN : N < 2147483648) : ∀ f n, n < N → n ≤ f → jof par hid f n = jof par hid n n := by
  intro f
  induction f using Nat.strongRecOn with
  | _ f ih =>
    intro n hn hf
    cases f with
    | zero => have : n = 0 := by omega
              subst this; rfl
    | succ f =>
      cases n with
      | zero =>
        rcases hp 0 hn with h | ⟨q, hq, -⟩
        · show (hid 0 == 0 && (decide (par 0 < 0) || _)) = (hid 0 == 0)
          rw [decide_eq_true h, Bool.true_or, Bool.and_true]
        · omega
      | succ n =>
        show (hid (n + 1) == 0 && (decide (par (n + 1) < 0) || _)) = (hid (n + 1) == 0 && (decide (par (n + 1) < 0) || _))
        rcases hp (n + 1) hn with h | ⟨q, hq, h⟩
        · rw [decide_eq_true h]; rfl
        · rw [h, nI_clamp (by omega), ih f (by omega) q (by omega) (by omega), ih n (by omega) q (by omega) (by omega)]
theorem jopn_root {par hid : Nat → Int32} {n : Nat} (h : par n < 0) : jopn par hid n = (hid n == 0) := by
  unfold jopn
  cases n with
  | zero => rfl
  | succ n =>
    show (hid (n + 1) == 0 && (decide (par (n + 1) < 0) || _)) = _
    rw [decide_eq_true h, Bool.true_or, Bool.and_true]
theorem jopn_at {par hid : Nat → Int32} {N n q : Nat} (hp : pOk par N) (hN : N < 2147483648) (hn : n < N) (hq : q < n) (h : par n = nI q) : jopn par hid n = (hid n == 0 && jopn par hid q) := by
  unfold jopn
  cases n with
  | zero => omega
  | succ n =>
    show (hid (n + 1) == 0 && (decide (par (n + 1) < 0) || _)) = _
    rw [decide_eq_false (by rw [h]; exact nI_pos (by omega)), Bool.false_or, h, nI_clamp (by omega), jof_more hp hN n q (by omega) (by omega)]
/-- the worlds' rows hold WORLD below r -/
def wOk (M : Nat → Nat → Int32) (r : Nat) : Prop := ∀ n, n < r → ∀ t, t < 12 → M (103 + n) t = jworld (M 1) (fun n => M (54 + n)) n t
def rInv (M M1 : Nat → Nat → Int32) (r : Nat) : Prop := (∀ q, (q < 103 ∨ 151 ≤ q) → M1 q = M q) ∧ ∀ n, n < r → ∀ t, t < 12 → M1 (103 + n) t = jworld (M 1) (fun n => M (54 + n)) n t
theorem rInv.root {M M1 M2 : Nat → Nat → Int32} {d : Nat} (h : rInv M M1 d) (hd : d < 48) (hneg : M 1 d < 0) (e : M2 = va_up M1 (103 + d) (va_cpy (M1 (54 + d)) (M1 (103 + d)) 0 0 12)) : rInv M M2 (d + 1) := by
  subst e
  refine ⟨fun q hq => by rw [va_up_ne _ _ (by omega)]; exact h.1 q hq, fun n hn t ht => ?_⟩
  by_cases hnd : n = d
  · subst hnd
    rw [va_up_self, pk_cpy_in (by omega) (by omega), h.1 (54 + n) (by omega), jworld_root hneg]
    show M (54 + n) (0 + (t - 0)) = M (54 + n) t
    rw [Nat.zero_add, Nat.sub_zero]
  · rw [va_up_ne _ _ (by omega)]
    exact h.2 n (by omega) t ht
theorem rInv.at {M M1 M2 : Nat → Nat → Int32} {N d q : Nat} (h : rInv M M1 d) (hp : pOk (M 1) N) (hN : N ≤ 48) (hd : d < N) (hq : q < d) (hpq : M 1 d = nI q) (e : (∀ p, p ≠ 103 + d → M2 p = M1 p) ∧ ∀ i j, i < 3 → j < 4 → M2 (103 + d) (4 * i + j) = jprod (M1 (103 + q)) (M1 (54 + d)) i j) : rInv M M2 (d + 1) := by
  refine ⟨fun p hpp => by rw [e.1 p (by omega)]; exact h.1 p hpp, fun n hn t ht => ?_⟩
  by_cases hnd : n = d
  · subst hnd
    have ht2 : t = 4 * (t / 4) + t % 4 := by omega
    have h1 := e.2 (t / 4) (t % 4) (by omega) (by omega)
    rw [← ht2] at h1
    rw [h1, jworld_at hp (by omega) hd hq hpq, h.1 (54 + n) (by omega)]
    exact jprod_congr (h.2 q hq) (fun _ _ => rfl) (by omega) (by omega)
  · rw [e.1 (103 + n) (by omega)]
    exact h.2 n (by omega) t ht
def oInv (M M1 : Nat → Nat → Int32) (d : Nat) : Prop := (∀ q, q ≠ 153 → M1 q = M q) ∧ ∀ n, n < d → M1 153 n = if jopn (M 1) (M 3) n = true then 1 else 0
theorem oInv.step {M M1 M2 : Nat → Nat → Int32} {d : Nat} {x : Int32} (h : oInv M M1 d) (e : M2 = va_up M1 153 (upd (M1 153) d (vp_nar .boolean x))) (hx : vp_nar .boolean x = if jopn (M 1) (M 3) d = true then 1 else 0) : oInv M M2 (d + 1) := by
  subst e
  refine ⟨fun q hq => by rw [va_up_ne _ _ hq]; exact h.1 q hq, fun n hn => ?_⟩
  rw [va_up_self]
  by_cases hnd : n = d
  · subst hnd
    rw [pk_us, hx]
  · rw [pk_un hnd]
    exact h.2 n (by omega)
/-- drawn before: the class's own word -/
def jbef (kd dp : Nat → Int32) (a b : Nat) : Prop := if kd a = kd b then (if kd a = nI 1 then dp a < dp b else dp b < dp a) else kd a = nI 1

theorem nI_max {a b : Nat} (ha : a < 2147483648) (hb : b < 2147483648) : (if nI a < nI b then nI b else nI a) = nI (max a b) := by
  by_cases h : a < b
  · rw [if_pos ((nI_ltI ha hb).mpr h), Nat.max_eq_right (by omega)]
  · rw [if_neg (fun q => h ((nI_ltI ha hb).mp q)), Nat.max_eq_left (by omega)]
theorem nI_min {a b : Nat} (ha : a < 2147483648) (hb : b < 2147483648) : (if nI b < nI a then nI b else nI a) = nI (min a b) := by
  by_cases h : b < a
  · rw [if_pos ((nI_ltI hb ha).mpr h), Nat.min_eq_right (by omega)]
  · rw [if_neg (fun q => h ((nI_ltI hb ha).mp q)), Nat.min_eq_left (by omega)]
theorem ready_done {M M1 M2 : Nat → Nat → Int32} {r0 u d N : Nat} (hp : pOk (M 1) N) (hN : N ≤ 48) (hr : max r0 u ≤ N) (h : rInv M M1 d) (hd : d = max r0 u) (e : M2 = va_up M1 0 (upd (M1 0) 7 (nI (max r0 u)))) : (∀ q, 0 < q → (q < 103 ∨ 151 ≤ q) → M2 q = M q) ∧ (∀ t, t ≠ 7 → M2 0 t = M 0 t) ∧ M2 0 7 = nI (max r0 u) ∧ wOk M2 (max r0 u) := by
  subst e; subst hd
  refine ⟨fun q h0 hq => by rw [va_up_ne _ _ (by omega)]; exact h.1 q hq, fun t ht => by rw [va_up_self, pk_un ht, h.1 0 (by omega)], by rw [va_up_self, pk_us], fun n hn t ht => ?_⟩
  rw [va_up_ne _ _ (by omega), h.2 n hn t ht]
  refine (jworld_congr hp (by omega) (fun k hk => ?_) (fun k hk t ht => ?_) n (by omega) t ht).symm
  · rw [va_up_ne _ _ (by omega), h.1 1 (by omega)]
  · show va_up M1 0 _ (54 + k) t = M (54 + k) t
    rw [va_up_ne _ _ (by omega), h.1 (54 + k) (by omega)]

set_option maxHeartbeats 4000000 in
set_option maxRecDepth 100000 in
/-- WORLD of the nodes below u -/
theorem kS_readyWorlds (l : Launch) (D : va_G) (cs : Nat → ClassId) (ad : Nat → Nat) (hI : bw_I ad 162) (M : Nat → Nat → Int32) (sz : Nat) (N u r0 : Nat) (hN : N ≤ 48) (hu : u ≤ N) (hr0 : r0 ≤ N) (hp : pOk (M 1) N) (hw0 : M 0 7 = nI r0) (hw : wOk M r0)  : Met l yS_readyWorlds (wc yS_readyWorlds cS_readyWorlds 4 none) ({ frames := 4, cells := 0, slots := 0, locals := 88 } : Room) (va_Pc [.ref (ad 0), .int (nI u)] (sP D cs ad M sz)) (bQv D ad 162 (sc_cell cs ad) sz (fun M1 => (∀ q, 0 < q → (q < 103 ∨ 151 ≤ q) → M1 q = M q) ∧ (∀ t, t ≠ 7 → M1 0 t = M 0 t) ∧ M1 0 7 = nI (max r0 u) ∧ wOk M1 (max r0 u))) 0 0 (bw_A ad 162 sz) := by
  refine Met.ofW (cc := cS_readyWorlds) (maxL := 4) (ret := none) (by decide +kernel) rfl ?_
  intro p e s m args below meth c s₁ B hml hv
  obtain ⟨rfl, hsz, hP, hE⟩ := hv
  subst hsz
  have hx := B.exec
  have hb := B.bytes
  have hr := B.returns
  have hts : ∀ w9 ∈ ws_all, w9.before ([.ref (ad 0), .int (nI u)] : List Value).toArray s = true := fun w9 h => atoms_spec (ws := (wc yS_readyWorlds cS_readyWorlds 4 none)) B.pre w9 (List.mem_cons_of_mem _ h)
  have hown : s.vm.findClass RS = some m.cls := findClass_of_methodNamed B.named
  have hlocks := B.notSynchronized
  have hS : va_S (bw_A ad 162 s.heap.size) s.heap s.heap [] := va_S.rf
  have hl := lv_entry ([.ref (ad 0), .int (nI u)]) (n := 4) (Nat.le_of_ble_eq_true rfl)
  rw [lg_entry_eq]
  generalize (lg_sl ([.ref (ad 0), .int (nI u)]) ++ List.replicate (4 - (lg_sl ([.ref (ad 0), .int (nI u)])).length) Slot.unset).toArray = ls at hl ⊢
  have hl : lv_has ls 4 [(0, .ref (ad 0)), (1, .int (nI u))] := hl
  refine lv_aload_n hx hb dS_readyWorlds_0 rfl (lv_at hl 0 rfl) ?_
  refine bw_get (own := RS) (ci := 1) (C := RS) (T := TS) (N := 14) (v := .int (M 0 7)) hx hb hts inS hown hE hP 0 (by decide) rfl rfl 7 (by decide) w_95 rfl rfl dS_readyWorlds_1 ?_
  refine ln_asi (nI r0) (by exact hw0) ?_
  refine lv_istore_n (lv' := [(2, .int (nI r0)), (0, .ref (ad 0)), (1, .int (nI u))]) hx hb dS_readyWorlds_4 rfl hl (by decide) rfl (fun ls hl => ?_)
  have loop : ∀ k : Nat, (∀ (d : Nat)  (M1 : Nat → Nat → Int32) (H : Heap) (locs : List Loc) (ls : Array Slot), d ≤ 48 → r0 ≤ d ∧ (d ≤ u ∨ d ≤ r0) → rInv M M1 d → u - d < k → va_P D cls3 (bw ad 162 (fun j => sc_cell cs ad j (M1 j))) H → va_S (bw_A ad 162 s.heap.size) s.heap H locs → lv_has ls 4 [(2, .int (nI d)), (0, .ref (ad 0)), (1, .int (nI u))] → W p l e (headSpec (wc yS_readyWorlds cS_readyWorlds 4 none) ({ frames := 4, cells := 0, slots := 0, locals := 88 } : Room)).room s m ([.ref (ad 0), .int (nI u)] : List Value).toArray below meth c H locs 0 0 (MQ below (bQv D ad 162 (sc_cell cs ad) s.heap.size (fun M1 => (∀ q, 0 < q → (q < 103 ∨ 151 ≤ q) → M1 q = M q) ∧ (∀ t, t ≠ 7 → M1 0 t = M 0 t) ∧ M1 0 7 = nI (max r0 u) ∧ wOk M1 (max r0 u))) ([.ref (ad 0), .int (nI u)] : List Value).toArray s 0 0 (bw_A ad 162 s.heap.size)) (F0 m 5 ls [])) := by
    intro k
    induction k with
    | zero => exact by intros; omega
    | succ k ih =>
      intro d  M1 H locs ls hd hd2 hinv hmu hP hS hl
      refine lv_iload_n hx hb dS_readyWorlds_5 rfl (lv_at hl 0 rfl) ?_
      refine lv_iload_n hx hb dS_readyWorlds_6 rfl (lv_at hl 2 rfl) ?_
      refine ln_icmp_ge (tgt := 70) hx hb dS_readyWorlds_7 (by decide) (by omega) (by omega) (fun c_7 => ?_) (fun c_7 => ?_)
      · skip
        refine lv_aload_n hx hb dS_readyWorlds_70 rfl (lv_at hl 1 rfl) ?_
        refine lv_aload_n hx hb dS_readyWorlds_71 rfl (lv_at hl 1 rfl) ?_
        refine bw_get (own := RS) (ci := 1) (C := RS) (T := TS) (N := 14) (v := .int (M1 0 7)) hx hb hts inS hown hE hP 0 (by decide) rfl rfl 7 (by decide) w_95 rfl rfl dS_readyWorlds_72 ?_
        refine lv_iload_n hx hb dS_readyWorlds_75 rfl (lv_at hl 2 rfl) ?_
        refine va_mmax (own := RS) (index := 140) hx hb (hml.trans hl.1.symm) hown (hts _ w_209) (hts _ w_210) (hts _ w_3) (hts _ w_211) (by decide) (Nat.le_of_ble_eq_true rfl) (by decide) (by decide) dS_readyWorlds_76 ?_
        refine ln_asi (nI (max r0 u)) (by rw [hinv.1 0 (by omega), hw0]; exact nI_max (by omega) (by omega)) ?_
        refine bw_put (own := RS) (ci := 1) (C := RS) (T := TS) (N := 14) (v := .int (nI (max r0 u))) (ty := .int) hx hb hts inS tyS tyS_ok nmS hown hE hI hP hS 0 (by decide) rfl rfl 7 (by decide) w_95 rfl rfl (upd (M1 0) 7 (nI (max r0 u))) rfl (by decide +kernel) rfl rfl (Nat.le_of_ble_eq_true rfl) dS_readyWorlds_79 (fun M_1 H locs eM_1 hP hS => ?_)
        exact W.vret hx hb hr (fun t ht hW => ⟨⟨M_1, rfl, ready_done hp hN (by omega) hinv (by omega) eM_1, by show va_P _ _ _ t.heap; rw [ht]; exact hP⟩, hS.F ht⟩) hS.2.2 dS_readyWorlds_82
      · skip
        refine lv_aload_n hx hb dS_readyWorlds_10 rfl (lv_at hl 1 rfl) ?_
        refine bw_get (own := RS) (ci := 1) (C := RS) (T := TS) (N := 14) (v := .ref (ad 1)) hx hb hts inS hown hE hP 0 (by decide) rfl rfl 1 (by decide) w_89 rfl rfl dS_readyWorlds_11 ?_
        refine lv_iload_n hx hb dS_readyWorlds_14 rfl (lv_at hl 0 rfl) ?_
        refine ln_iald (L := 48) (g := (M1 1)) hx hb hE hP 1 0 (by decide) (rfl) rfl (by omega) (by decide) dS_readyWorlds_15 ?_
        have hpd := hp d (by omega)
        rcases hpd with hneg | ⟨q, hq, hpq⟩
        · skip
          refine lv_istore_n (lv' := [(3, .int (M1 1 d)), (2, .int (nI d)), (0, .ref (ad 0)), (1, .int (nI u))]) hx hb dS_readyWorlds_16 rfl hl (by decide) rfl (fun ls hl => ?_)
          refine lv_iload_n hx hb dS_readyWorlds_17 rfl (lv_at hl 0 rfl) ?_
          refine lv_if_lt (tgt := 45) hx hb dS_readyWorlds_18 (by decide) (fun c_18 => ?_) (fun c_18 => ?_)
          · skip
            refine lv_aload_n hx hb dS_readyWorlds_45 rfl (lv_at hl 2 rfl) ?_
            refine bw_get (own := RS) (ci := 1) (C := RS) (T := TS) (N := 14) (v := .ref (ad 53)) hx hb hts inS hown hE hP 0 (by decide) rfl rfl 5 (by decide) w_93 rfl rfl dS_readyWorlds_46 ?_
            refine lv_iload_n hx hb dS_readyWorlds_49 rfl (lv_at hl 1 rfl) ?_
            refine ln_aald (L := 48) hx hb hE hP 53 2 (by decide) (rfl) rfl (by omega) (by decide) (a := ad (54 + d)) (by first | rfl | (show (if _ then _ else _) = _; rw [if_pos (by omega)])) dS_readyWorlds_50 ?_
            refine lv_iconst (v := nI 0) hx hb dS_readyWorlds_51 (by decide) ?_
            refine lv_aload_n hx hb dS_readyWorlds_52 rfl (lv_at hl 2 rfl) ?_
            refine bw_get (own := RS) (ci := 1) (C := RS) (T := TS) (N := 14) (v := .ref (ad 102)) hx hb hts inS hown hE hP 0 (by decide) rfl rfl 6 (by decide) w_94 rfl rfl dS_readyWorlds_53 ?_
            refine lv_iload_n hx hb dS_readyWorlds_56 rfl (lv_at hl 1 rfl) ?_
            refine ln_aald (L := 48) hx hb hE hP 102 2 (by decide) (rfl) rfl (by omega) (by decide) (a := ad (103 + d)) (by first | rfl | (show (if _ then _ else _) = _; rw [if_pos (by omega)])) dS_readyWorlds_57 ?_
            refine lv_iconst (v := nI 0) hx hb dS_readyWorlds_58 (by decide) ?_
            refine lv_bipush (v := nI 12) hx hb dS_readyWorlds_59 (by decide) ?_
            refine bw_copyi (own := RS) (index := 134) (L := 12) hx hb (hml.trans hl.1.symm) hown (hts _ w_206) (hts _ w_208) (hts _ w_207) (hts _ w_9) hE hI hP hS (54 + d) (103 + d) 0 (by omega) (by omega) (sc_row54 (by omega)) (sc_row103 (by omega)) rfl (by decide) (by decide) (va_cpy (M1 (54 + d)) (M1 (103 + d)) 0 0 12) (sc_row103 (by omega)) (by decide) (by decide) dS_readyWorlds_61 (fun M_2 H locs eM_2 hP hS => ?_)
            refine lv_iinc (v := nI (d + 1)) (lv' := [(2, .int (nI (d + 1))), (3, .int (M1 1 d)), (0, .ref (ad 0)), (1, .int (nI u))]) hx hb dS_readyWorlds_64 hl (k := 1) rfl (nI_add d 1) (by decide) rfl (fun ls hl => ?_)
            refine lv_goto (tgt := 5) hx hb dS_readyWorlds_67 (by decide) ?_
            exact ih (d + 1)  M_2 H locs ls (by omega) (by omega) (hinv.root (by omega) hneg eM_2) (by omega) hP hS (lv_sub hl [0, 2, 3] rfl)
          · skip
            exact absurd (by rw [hinv.1 1 (by omega)]; exact hneg) c_18
        · skip
          refine ln_asi (nI q) (by rw [hinv.1 1 (by omega)]; exact hpq) ?_
          refine lv_istore_n (lv' := [(3, .int (nI q)), (2, .int (nI d)), (0, .ref (ad 0)), (1, .int (nI u))]) hx hb dS_readyWorlds_16 rfl hl (by decide) rfl (fun ls hl => ?_)
          refine lv_iload_n hx hb dS_readyWorlds_17 rfl (lv_at hl 0 rfl) ?_
          refine ln_if_lt (tgt := 45) hx hb dS_readyWorlds_18 (by decide) (by omega) ?_
          refine lv_aload_n hx hb dS_readyWorlds_21 rfl (lv_at hl 2 rfl) ?_
          refine bw_get (own := RS) (ci := 1) (C := RS) (T := TS) (N := 14) (v := .ref (ad 102)) hx hb hts inS hown hE hP 0 (by decide) rfl rfl 6 (by decide) w_94 rfl rfl dS_readyWorlds_22 ?_
          refine lv_iload_n hx hb dS_readyWorlds_25 rfl (lv_at hl 0 rfl) ?_
          refine ln_aald (L := 48) hx hb hE hP 102 2 (by decide) (rfl) rfl (by omega) (by decide) (a := ad (103 + q)) (by first | rfl | (show (if _ then _ else _) = _; rw [if_pos (by omega)])) dS_readyWorlds_26 ?_
          refine lv_aload_n hx hb dS_readyWorlds_27 rfl (lv_at hl 2 rfl) ?_
          refine bw_get (own := RS) (ci := 1) (C := RS) (T := TS) (N := 14) (v := .ref (ad 53)) hx hb hts inS hown hE hP 0 (by decide) rfl rfl 5 (by decide) w_93 rfl rfl dS_readyWorlds_28 ?_
          refine lv_iload_n hx hb dS_readyWorlds_31 rfl (lv_at hl 1 rfl) ?_
          refine ln_aald (L := 48) hx hb hE hP 53 2 (by decide) (rfl) rfl (by omega) (by decide) (a := ad (54 + d)) (by first | rfl | (show (if _ then _ else _) = _; rw [if_pos (by omega)])) dS_readyWorlds_32 ?_
          refine lv_aload_n hx hb dS_readyWorlds_33 rfl (lv_at hl 2 rfl) ?_
          refine bw_get (own := RS) (ci := 1) (C := RS) (T := TS) (N := 14) (v := .ref (ad 102)) hx hb hts inS hown hE hP 0 (by decide) rfl rfl 6 (by decide) w_94 rfl rfl dS_readyWorlds_34 ?_
          refine lv_iload_n hx hb dS_readyWorlds_37 rfl (lv_at hl 1 rfl) ?_
          refine ln_aald (L := 48) hx hb hE hP 102 2 (by decide) (rfl) rfl (by omega) (by decide) (a := ad (103 + d)) (by first | rfl | (show (if _ then _ else _) = _; rw [if_pos (by omega)])) dS_readyWorlds_38 ?_
          refine bc_callv (bc_runS (own := RS) (As := [.ref (ad (103 + q)), .ref (ad (54 + d)), .ref (ad (103 + d))]) (rest := []) hx hb (hml.trans hl.1.symm) hown hts (kS_multiply l D cs ad hI M1 H.size (103 + q) (54 + d) (103 + d) (by omega) (by omega) (by omega) (fun _ => sc_row103 (by omega)) (fun _ => sc_row54 (by omega)) (fun _ => sc_row103 (by omega)) (by omega) (by omega)) w_70 w_205 w_69 w_1 hd_S_multiply rfl ⟨rfl, rfl⟩ ⟨Nat.le_of_ble_eq_true rfl, Nat.le_of_ble_eq_true rfl⟩ (fun _ _ _ _ h => h.calling) (fun U hU hW => ⟨by rw [hU], by rw [hU]; exact hP, hE.warm hW⟩) rfl (Nat.le_of_ble_eq_true rfl) dS_readyWorlds_39 ⟨Nat.le_of_ble_eq_true rfl, Nat.le_of_ble_eq_true rfl⟩) hS (fun M_3 H locs hr_39 hP hS => ?_)
          refine lv_goto (tgt := 64) hx hb dS_readyWorlds_42 (by decide) ?_
          refine lv_iinc (v := nI (d + 1)) (lv' := [(2, .int (nI (d + 1))), (3, .int (nI q)), (0, .ref (ad 0)), (1, .int (nI u))]) hx hb dS_readyWorlds_64 hl (k := 1) rfl (nI_add d 1) (by decide) rfl (fun ls hl => ?_)
          refine lv_goto (tgt := 5) hx hb dS_readyWorlds_67 (by decide) ?_
          exact ih (d + 1)  M_3 H locs ls (by omega) (by omega) (hinv.at hp hN (by omega) hq hpq hr_39) (by omega) hP hS (lv_sub hl [0, 2, 3] rfl)
  exact (loop 100000) r0  M s.heap [] ls (by omega) (by omega) (⟨fun _ _ => rfl, hw⟩) (by omega) hP hS (lv_sub hl [0, 1, 2] rfl)

theorem open_f {par hid : Nat → Int32} {d : Nat} (h : ¬ hid d = 0) : vp_nar .boolean (nI 0) = if jopn par hid d = true then 1 else 0 := by
  have : jopn par hid d = false := by
    unfold jopn
    cases d with
    | zero => show (hid 0 == 0) = false; rw [beq_eq_false_iff_ne]; exact h
    | succ n => show (hid (n + 1) == 0 && _) = false; rw [beq_eq_false_iff_ne.mpr h]; rfl
  rw [this]; rfl
theorem open_r {par hid : Nat → Int32} {d : Nat} (hneg : par d < 0) (h : hid d = 0) : vp_nar .boolean (nI 1) = if jopn par hid d = true then 1 else 0 := by
  rw [jopn_root hneg, h]; rfl
theorem open_1 {par hid : Nat → Int32} {N d q : Nat} {y : Int32} (hp : pOk par N) (hN : N < 2147483648) (hd : d < N) (hq : q < d) (hpq : par d = nI q) (h : hid d = 0) (hy : y = if jopn par hid q = true then 1 else 0) (hy0 : ¬ y = 0) : vp_nar .boolean (nI 1) = if jopn par hid d = true then 1 else 0 := by
  have h1 : jopn par hid q = true := by
    cases hc : jopn par hid q with
    | true => rfl
    | false => rw [hc] at hy; exact absurd hy hy0
  rw [jopn_at hp hN hd hq hpq, h, h1]; rfl
theorem open_0 {par hid : Nat → Int32} {N d q : Nat} {y : Int32} (hp : pOk par N) (hN : N < 2147483648) (hd : d < N) (hq : q < d) (hpq : par d = nI q) (hy : y = if jopn par hid q = true then 1 else 0) (hy0 : y = 0) : vp_nar .boolean (nI 0) = if jopn par hid d = true then 1 else 0 := by
  have h1 : jopn par hid q = false := by
    cases hc : jopn par hid q with
    | false => rfl
    | true => rw [hc, hy0] at hy; exact absurd hy (by decide)
  rw [jopn_at hp hN hd hq hpq, h1, Bool.and_false]; rfl

set_option maxHeartbeats 4000000 in
set_option maxRecDepth 100000 in
/-- who has nobody hidden above -/
theorem kS_markOpen (l : Launch) (D : va_G) (cs : Nat → ClassId) (ad : Nat → Nat) (hI : bw_I ad 162) (M : Nat → Nat → Int32) (sz : Nat) (N : Nat) (hN : N ≤ 48) (hn : M 0 0 = nI N) (hp : pOk (M 1) N)  : Met l yS_markOpen (wc yS_markOpen cS_markOpen 3 none) ({ frames := 0, cells := 0, slots := 0, locals := 0 } : Room) (va_Pc [.ref (ad 0)] (sP D cs ad M sz)) (bQv D ad 162 (sc_cell cs ad) sz (fun M1 => oInv M M1 N)) 0 0 (bw_A ad 162 sz) := by
  refine Met.ofW (cc := cS_markOpen) (maxL := 3) (ret := none) (by decide +kernel) rfl ?_
  intro p e s m args below meth c s₁ B hml hv
  obtain ⟨rfl, hsz, hP, hE⟩ := hv
  subst hsz
  have hx := B.exec
  have hb := B.bytes
  have hr := B.returns
  have hts : ∀ w9 ∈ ws_all, w9.before ([.ref (ad 0)] : List Value).toArray s = true := fun w9 h => atoms_spec (ws := (wc yS_markOpen cS_markOpen 3 none)) B.pre w9 (List.mem_cons_of_mem _ h)
  have hown : s.vm.findClass RS = some m.cls := findClass_of_methodNamed B.named
  have hlocks := B.notSynchronized
  have hS : va_S (bw_A ad 162 s.heap.size) s.heap s.heap [] := va_S.rf
  have hl := lv_entry ([.ref (ad 0)]) (n := 3) (Nat.le_of_ble_eq_true rfl)
  rw [lg_entry_eq]
  generalize (lg_sl ([.ref (ad 0)]) ++ List.replicate (3 - (lg_sl ([.ref (ad 0)])).length) Slot.unset).toArray = ls at hl ⊢
  have hl : lv_has ls 3 [(0, .ref (ad 0))] := hl
  refine lv_iconst (v := nI 0) hx hb dS_markOpen_0 (by decide) ?_
  refine lv_istore_n (lv' := [(1, .int (nI 0)), (0, .ref (ad 0))]) hx hb dS_markOpen_1 rfl hl (by decide) rfl (fun ls hl => ?_)
  have loop : ∀ k : Nat, (∀ (d : Nat)  (M1 : Nat → Nat → Int32) (H : Heap) (locs : List Loc) (ls : Array Slot), d ≤ N → oInv M M1 d → N - d < k → va_P D cls3 (bw ad 162 (fun j => sc_cell cs ad j (M1 j))) H → va_S (bw_A ad 162 s.heap.size) s.heap H locs → lv_has ls 3 [(1, .int (nI d)), (0, .ref (ad 0))] → W p l e (headSpec (wc yS_markOpen cS_markOpen 3 none) ({ frames := 0, cells := 0, slots := 0, locals := 0 } : Room)).room s m ([.ref (ad 0)] : List Value).toArray below meth c H locs 0 0 (MQ below (bQv D ad 162 (sc_cell cs ad) s.heap.size (fun M1 => oInv M M1 N)) ([.ref (ad 0)] : List Value).toArray s 0 0 (bw_A ad 162 s.heap.size)) (F0 m 2 ls [])) := by
    intro k
    induction k with
    | zero => exact by intros; omega
    | succ k ih =>
      intro d  M1 H locs ls hd hinv hmu hP hS hl
      refine lv_iload_n hx hb dS_markOpen_2 rfl (lv_at hl 0 rfl) ?_
      refine lv_aload_n hx hb dS_markOpen_3 rfl (lv_at hl 1 rfl) ?_
      refine bw_get (own := RS) (ci := 1) (C := RS) (T := TS) (N := 14) (v := .int (M1 0 0)) hx hb hts inS hown hE hP 0 (by decide) rfl rfl 0 (by decide) w_88 rfl rfl dS_markOpen_4 ?_
      refine ln_asi (nI N) (by rw [hinv.1 0 (by decide)]; exact hn) ?_
      refine ln_icmp_ge (tgt := 56) hx hb dS_markOpen_7 (by decide) (by omega) (by omega) (fun c_7 => ?_) (fun c_7 => ?_)
      · skip
        exact W.vret hx hb hr (fun t ht hW => ⟨⟨M1, rfl, by rw [show N = d by omega]; exact hinv, by show va_P _ _ _ t.heap; rw [ht]; exact hP⟩, hS.F ht⟩) hS.2.2 dS_markOpen_56
      · skip
        refine lv_aload_n hx hb dS_markOpen_10 rfl (lv_at hl 1 rfl) ?_
        refine bw_get (own := RS) (ci := 1) (C := RS) (T := TS) (N := 14) (v := .ref (ad 1)) hx hb hts inS hown hE hP 0 (by decide) rfl rfl 1 (by decide) w_89 rfl rfl dS_markOpen_11 ?_
        refine lv_iload_n hx hb dS_markOpen_14 rfl (lv_at hl 0 rfl) ?_
        refine ln_iald (L := 48) (g := (M1 1)) hx hb hE hP 1 0 (by decide) (rfl) rfl (by omega) (by decide) dS_markOpen_15 ?_
        have hpd := hp d (by omega)
        rcases hpd with hneg | ⟨q, hq, hpq⟩
        · skip
          refine lv_istore_n (lv' := [(2, .int (M1 1 d)), (1, .int (nI d)), (0, .ref (ad 0))]) hx hb dS_markOpen_16 rfl hl (by decide) rfl (fun ls hl => ?_)
          refine lv_aload_n hx hb dS_markOpen_17 rfl (lv_at hl 2 rfl) ?_
          refine bw_get (own := RS) (ci := 1) (C := RS) (T := TS) (N := 14) (v := .ref (ad 153)) hx hb hts inS hown hE hP 0 (by decide) rfl rfl 10 (by decide) w_98 rfl rfl dS_markOpen_18 ?_
          refine lv_iload_n hx hb dS_markOpen_21 rfl (lv_at hl 1 rfl) ?_
          refine lv_aload_n hx hb dS_markOpen_22 rfl (lv_at hl 2 rfl) ?_
          refine bw_get (own := RS) (ci := 1) (C := RS) (T := TS) (N := 14) (v := .ref (ad 3)) hx hb hts inS hown hE hP 0 (by decide) rfl rfl 3 (by decide) w_91 rfl rfl dS_markOpen_23 ?_
          refine lv_iload_n hx hb dS_markOpen_26 rfl (lv_at hl 1 rfl) ?_
          refine ln_zald (L := 48) (g := (M1 3)) hx hb hE hP 3 1 (by decide) (rfl) rfl (by omega) (by decide) dS_markOpen_27 ?_
          refine lv_if_ne (tgt := 48) hx hb dS_markOpen_28 (by decide) (fun c_28 => ?_) (fun c_28 => ?_)
          · skip
            refine lv_iconst (v := nI 0) hx hb dS_markOpen_48 (by decide) ?_
            refine ln_zast (L := 48) hx hb hE hI hP hS 153 1 (by decide) (rfl) rfl (by omega) (by decide) (upd (M1 153) d (vp_nar .boolean (nI 0))) (rfl) dS_markOpen_49 (fun M_1 H locs eM_1 hP hS => ?_)
            refine lv_iinc (v := nI (d + 1)) (lv' := [(1, .int (nI (d + 1))), (2, .int (M1 1 d)), (0, .ref (ad 0))]) hx hb dS_markOpen_50 hl (k := 1) rfl (nI_add d 1) (by decide) rfl (fun ls hl => ?_)
            refine lv_goto (tgt := 2) hx hb dS_markOpen_53 (by decide) ?_
            exact ih (d + 1)  M_1 H locs ls (by omega) (hinv.step eM_1 (open_f (by rw [← hinv.1 3 (by decide)]; exact c_28))) (by omega) hP hS (lv_sub hl [0, 2] rfl)
          · skip
            refine lv_iload_n hx hb dS_markOpen_31 rfl (lv_at hl 0 rfl) ?_
            refine lv_if_lt (tgt := 44) hx hb dS_markOpen_32 (by decide) (fun c_32 => ?_) (fun c_32 => ?_)
            · skip
              refine lv_iconst (v := nI 1) hx hb dS_markOpen_44 (by decide) ?_
              refine lv_goto (tgt := 49) hx hb dS_markOpen_45 (by decide) ?_
              refine ln_zast (L := 48) hx hb hE hI hP hS 153 1 (by decide) (rfl) rfl (by omega) (by decide) (upd (M1 153) d (vp_nar .boolean (nI 1))) (rfl) dS_markOpen_49 (fun M_2 H locs eM_2 hP hS => ?_)
              refine lv_iinc (v := nI (d + 1)) (lv' := [(1, .int (nI (d + 1))), (2, .int (M1 1 d)), (0, .ref (ad 0))]) hx hb dS_markOpen_50 hl (k := 1) rfl (nI_add d 1) (by decide) rfl (fun ls hl => ?_)
              refine lv_goto (tgt := 2) hx hb dS_markOpen_53 (by decide) ?_
              exact ih (d + 1)  M_2 H locs ls (by omega) (hinv.step eM_2 (open_r hneg (by rw [← hinv.1 3 (by decide)]; exact c_28))) (by omega) hP hS (lv_sub hl [0, 2] rfl)
            · skip
              exact absurd (by rw [hinv.1 1 (by decide)]; exact hneg) c_32
        · skip
          refine ln_asi (nI q) (by rw [hinv.1 1 (by decide)]; exact hpq) ?_
          refine lv_istore_n (lv' := [(2, .int (nI q)), (1, .int (nI d)), (0, .ref (ad 0))]) hx hb dS_markOpen_16 rfl hl (by decide) rfl (fun ls hl => ?_)
          refine lv_aload_n hx hb dS_markOpen_17 rfl (lv_at hl 2 rfl) ?_
          refine bw_get (own := RS) (ci := 1) (C := RS) (T := TS) (N := 14) (v := .ref (ad 153)) hx hb hts inS hown hE hP 0 (by decide) rfl rfl 10 (by decide) w_98 rfl rfl dS_markOpen_18 ?_
          refine lv_iload_n hx hb dS_markOpen_21 rfl (lv_at hl 1 rfl) ?_
          refine lv_aload_n hx hb dS_markOpen_22 rfl (lv_at hl 2 rfl) ?_
          refine bw_get (own := RS) (ci := 1) (C := RS) (T := TS) (N := 14) (v := .ref (ad 3)) hx hb hts inS hown hE hP 0 (by decide) rfl rfl 3 (by decide) w_91 rfl rfl dS_markOpen_23 ?_
          refine lv_iload_n hx hb dS_markOpen_26 rfl (lv_at hl 1 rfl) ?_
          refine ln_zald (L := 48) (g := (M1 3)) hx hb hE hP 3 1 (by decide) (rfl) rfl (by omega) (by decide) dS_markOpen_27 ?_
          refine lv_if_ne (tgt := 48) hx hb dS_markOpen_28 (by decide) (fun c_28 => ?_) (fun c_28 => ?_)
          · skip
            refine lv_iconst (v := nI 0) hx hb dS_markOpen_48 (by decide) ?_
            refine ln_zast (L := 48) hx hb hE hI hP hS 153 1 (by decide) (rfl) rfl (by omega) (by decide) (upd (M1 153) d (vp_nar .boolean (nI 0))) (rfl) dS_markOpen_49 (fun M_3 H locs eM_3 hP hS => ?_)
            refine lv_iinc (v := nI (d + 1)) (lv' := [(1, .int (nI (d + 1))), (2, .int (nI q)), (0, .ref (ad 0))]) hx hb dS_markOpen_50 hl (k := 1) rfl (nI_add d 1) (by decide) rfl (fun ls hl => ?_)
            refine lv_goto (tgt := 2) hx hb dS_markOpen_53 (by decide) ?_
            exact ih (d + 1)  M_3 H locs ls (by omega) (hinv.step eM_3 (open_f (by rw [← hinv.1 3 (by decide)]; exact c_28))) (by omega) hP hS (lv_sub hl [0, 2] rfl)
          · skip
            refine lv_iload_n hx hb dS_markOpen_31 rfl (lv_at hl 0 rfl) ?_
            refine ln_if_lt (tgt := 44) hx hb dS_markOpen_32 (by decide) (by omega) ?_
            refine lv_aload_n hx hb dS_markOpen_35 rfl (lv_at hl 2 rfl) ?_
            refine bw_get (own := RS) (ci := 1) (C := RS) (T := TS) (N := 14) (v := .ref (ad 153)) hx hb hts inS hown hE hP 0 (by decide) rfl rfl 10 (by decide) w_98 rfl rfl dS_markOpen_36 ?_
            refine lv_iload_n hx hb dS_markOpen_39 rfl (lv_at hl 0 rfl) ?_
            refine ln_zald (L := 48) (g := (M1 153)) hx hb hE hP 153 1 (by decide) (rfl) rfl (by omega) (by decide) dS_markOpen_40 ?_
            refine lv_if_eq (tgt := 48) hx hb dS_markOpen_41 (by decide) (fun c_41 => ?_) (fun c_41 => ?_)
            · skip
              refine lv_iconst (v := nI 0) hx hb dS_markOpen_48 (by decide) ?_
              refine ln_zast (L := 48) hx hb hE hI hP hS 153 1 (by decide) (rfl) rfl (by omega) (by decide) (upd (M1 153) d (vp_nar .boolean (nI 0))) (rfl) dS_markOpen_49 (fun M_4 H locs eM_4 hP hS => ?_)
              refine lv_iinc (v := nI (d + 1)) (lv' := [(1, .int (nI (d + 1))), (2, .int (nI q)), (0, .ref (ad 0))]) hx hb dS_markOpen_50 hl (k := 1) rfl (nI_add d 1) (by decide) rfl (fun ls hl => ?_)
              refine lv_goto (tgt := 2) hx hb dS_markOpen_53 (by decide) ?_
              exact ih (d + 1)  M_4 H locs ls (by omega) (hinv.step eM_4 (open_0 hp (by omega) (by omega) hq hpq (hinv.2 q hq) c_41)) (by omega) hP hS (lv_sub hl [0, 2] rfl)
            · skip
              refine lv_iconst (v := nI 1) hx hb dS_markOpen_44 (by decide) ?_
              refine lv_goto (tgt := 49) hx hb dS_markOpen_45 (by decide) ?_
              refine ln_zast (L := 48) hx hb hE hI hP hS 153 1 (by decide) (rfl) rfl (by omega) (by decide) (upd (M1 153) d (vp_nar .boolean (nI 1))) (rfl) dS_markOpen_49 (fun M_5 H locs eM_5 hP hS => ?_)
              refine lv_iinc (v := nI (d + 1)) (lv' := [(1, .int (nI (d + 1))), (2, .int (nI q)), (0, .ref (ad 0))]) hx hb dS_markOpen_50 hl (k := 1) rfl (nI_add d 1) (by decide) rfl (fun ls hl => ?_)
              refine lv_goto (tgt := 2) hx hb dS_markOpen_53 (by decide) ?_
              exact ih (d + 1)  M_5 H locs ls (by omega) (hinv.step eM_5 (open_1 hp (by omega) (by omega) hq hpq (by rw [← hinv.1 3 (by decide)]; exact c_28) (hinv.2 q hq) c_41)) (by omega) hP hS (lv_sub hl [0, 2] rfl)
  exact (loop 100000) 0  M s.heap [] ls (by omega) (⟨fun _ _ => rfl, fun n hn => by omega⟩) (by omega) hP hS (lv_sub hl [0, 1] rfl)

set_option maxHeartbeats 4000000 in
set_option maxRecDepth 100000 in
theorem kS_isSeen (l : Launch) (D : va_G) (cs : Nat → ClassId) (ad : Nat → Nat) (hI : bw_I ad 162) (M : Nat → Nat → Int32) (sz : Nat) (d : Nat) (hd : d < 48)  : Met l yS_isSeen (wc yS_isSeen cS_isSeen 2 (some .boolean)) ({ frames := 0, cells := 0, slots := 0, locals := 0 } : Room) (va_Pc [.ref (ad 0), .int (nI d)] (sP D cs ad M sz)) (vp_Si (jb (¬ M 2 d = 0 ∧ ¬ M 153 d = 0))) 0 0 (fun _ => False) := by
  refine Met.ofW (cc := cS_isSeen) (maxL := 2) (ret := (some .boolean)) (by decide +kernel) rfl ?_
  intro p e s m args below meth c s₁ B hml hv
  obtain ⟨rfl, hsz, hP, hE⟩ := hv
  subst hsz
  have hx := B.exec
  have hb := B.bytes
  have hr := B.returns
  have hts : ∀ w9 ∈ ws_all, w9.before ([.ref (ad 0), .int (nI d)] : List Value).toArray s = true := fun w9 h => atoms_spec (ws := (wc yS_isSeen cS_isSeen 2 (some .boolean))) B.pre w9 (List.mem_cons_of_mem _ h)
  have hown : s.vm.findClass RS = some m.cls := findClass_of_methodNamed B.named
  have hlocks := B.notSynchronized
  have hl := lv_entry ([.ref (ad 0), .int (nI d)]) (n := 2) (Nat.le_of_ble_eq_true rfl)
  rw [lg_entry_eq]
  generalize (lg_sl ([.ref (ad 0), .int (nI d)]) ++ List.replicate (2 - (lg_sl ([.ref (ad 0), .int (nI d)])).length) Slot.unset).toArray = ls at hl ⊢
  have hl : lv_has ls 2 [(0, .ref (ad 0)), (1, .int (nI d))] := hl
  refine lv_aload_n hx hb dS_isSeen_0 rfl (lv_at hl 0 rfl) ?_
  refine bw_get (own := RS) (ci := 1) (C := RS) (T := TS) (N := 14) (v := .ref (ad 2)) hx hb hts inS hown hE hP 0 (by decide) rfl rfl 2 (by decide) w_90 rfl rfl dS_isSeen_1 ?_
  refine lv_iload_n hx hb dS_isSeen_4 rfl (lv_at hl 1 rfl) ?_
  refine ln_iald (L := 48) (g := (M 2)) hx hb hE hP 2 0 (by decide) (rfl) rfl (by omega) (by decide) dS_isSeen_5 ?_
  refine lv_if_eq (tgt := 22) hx hb dS_isSeen_6 (by decide) (fun c_6 => ?_) (fun c_6 => ?_)
  · skip
    refine lv_iconst (v := nI 0) hx hb dS_isSeen_22 (by decide) ?_
    exact W.zret (v := nI 0) (ty := .boolean) hx hb hr (by decide) (fun t ht hW => ⟨_, rfl, jb.zero (fun h9 => h9.1 c_6), ht⟩) (fun _ h => nomatch h) dS_isSeen_23
  · skip
    refine lv_aload_n hx hb dS_isSeen_9 rfl (lv_at hl 0 rfl) ?_
    refine bw_get (own := RS) (ci := 1) (C := RS) (T := TS) (N := 14) (v := .ref (ad 153)) hx hb hts inS hown hE hP 0 (by decide) rfl rfl 10 (by decide) w_98 rfl rfl dS_isSeen_10 ?_
    refine lv_iload_n hx hb dS_isSeen_13 rfl (lv_at hl 1 rfl) ?_
    refine ln_zald (L := 48) (g := (M 153)) hx hb hE hP 153 1 (by decide) (rfl) rfl (by omega) (by decide) dS_isSeen_14 ?_
    refine lv_if_eq (tgt := 22) hx hb dS_isSeen_15 (by decide) (fun c_15 => ?_) (fun c_15 => ?_)
    · skip
      refine lv_iconst (v := nI 0) hx hb dS_isSeen_22 (by decide) ?_
      exact W.zret (v := nI 0) (ty := .boolean) hx hb hr (by decide) (fun t ht hW => ⟨_, rfl, jb.zero (fun h9 => h9.2 c_15), ht⟩) (fun _ h => nomatch h) dS_isSeen_23
    · skip
      refine lv_iconst (v := nI 1) hx hb dS_isSeen_18 (by decide) ?_
      refine lv_goto (tgt := 23) hx hb dS_isSeen_19 (by decide) ?_
      exact W.zret (v := nI 1) (ty := .boolean) hx hb hr (by decide) (fun t ht hW => ⟨_, rfl, jb.one ⟨c_6, c_15⟩, ht⟩) (fun _ h => nomatch h) dS_isSeen_23

set_option maxHeartbeats 4000000 in
set_option maxRecDepth 100000 in
theorem kS_isDrawnBefore (l : Launch) (D : va_G) (cs : Nat → ClassId) (ad : Nat → Nat) (hI : bw_I ad 162) (M : Nat → Nat → Int32) (sz : Nat) (a b : Nat) (ha : a < 48) (hb0 : b < 48)  : Met l yS_isDrawnBefore (wc yS_isDrawnBefore cS_isDrawnBefore 3 (some .boolean)) ({ frames := 0, cells := 0, slots := 0, locals := 0 } : Room) (va_Pc [.ref (ad 0), .int (nI a), .int (nI b)] (sP D cs ad M sz)) (vp_Si (jb (jbef (M 2) (M 154) a b))) 0 0 (fun _ => False) := by
  refine Met.ofW (cc := cS_isDrawnBefore) (maxL := 3) (ret := (some .boolean)) (by decide +kernel) rfl ?_
  intro p e s m args below meth c s₁ B hml hv
  obtain ⟨rfl, hsz, hP, hE⟩ := hv
  subst hsz
  have hx := B.exec
  have hb := B.bytes
  have hr := B.returns
  have hts : ∀ w9 ∈ ws_all, w9.before ([.ref (ad 0), .int (nI a), .int (nI b)] : List Value).toArray s = true := fun w9 h => atoms_spec (ws := (wc yS_isDrawnBefore cS_isDrawnBefore 3 (some .boolean))) B.pre w9 (List.mem_cons_of_mem _ h)
  have hown : s.vm.findClass RS = some m.cls := findClass_of_methodNamed B.named
  have hlocks := B.notSynchronized
  have hl := lv_entry ([.ref (ad 0), .int (nI a), .int (nI b)]) (n := 3) (Nat.le_of_ble_eq_true rfl)
  rw [lg_entry_eq]
  generalize (lg_sl ([.ref (ad 0), .int (nI a), .int (nI b)]) ++ List.replicate (3 - (lg_sl ([.ref (ad 0), .int (nI a), .int (nI b)])).length) Slot.unset).toArray = ls at hl ⊢
  have hl : lv_has ls 3 [(0, .ref (ad 0)), (1, .int (nI a)), (2, .int (nI b))] := hl
  refine lv_aload_n hx hb dS_isDrawnBefore_0 rfl (lv_at hl 0 rfl) ?_
  refine bw_get (own := RS) (ci := 1) (C := RS) (T := TS) (N := 14) (v := .ref (ad 2)) hx hb hts inS hown hE hP 0 (by decide) rfl rfl 2 (by decide) w_90 rfl rfl dS_isDrawnBefore_1 ?_
  refine lv_iload_n hx hb dS_isDrawnBefore_4 rfl (lv_at hl 1 rfl) ?_
  refine ln_iald (L := 48) (g := (M 2)) hx hb hE hP 2 0 (by decide) (rfl) rfl (by omega) (by decide) dS_isDrawnBefore_5 ?_
  refine lv_aload_n hx hb dS_isDrawnBefore_6 rfl (lv_at hl 0 rfl) ?_
  refine bw_get (own := RS) (ci := 1) (C := RS) (T := TS) (N := 14) (v := .ref (ad 2)) hx hb hts inS hown hE hP 0 (by decide) rfl rfl 2 (by decide) w_90 rfl rfl dS_isDrawnBefore_7 ?_
  refine lv_iload_n hx hb dS_isDrawnBefore_10 rfl (lv_at hl 2 rfl) ?_
  refine ln_iald (L := 48) (g := (M 2)) hx hb hE hP 2 0 (by decide) (rfl) rfl (by omega) (by decide) dS_isDrawnBefore_11 ?_
  refine lv_icmp_eq (tgt := 31) hx hb dS_isDrawnBefore_12 (by decide) (fun c_12 => ?_) (fun c_12 => ?_)
  · skip
    refine lv_aload_n hx hb dS_isDrawnBefore_31 rfl (lv_at hl 0 rfl) ?_
    refine bw_get (own := RS) (ci := 1) (C := RS) (T := TS) (N := 14) (v := .ref (ad 2)) hx hb hts inS hown hE hP 0 (by decide) rfl rfl 2 (by decide) w_90 rfl rfl dS_isDrawnBefore_32 ?_
    refine lv_iload_n hx hb dS_isDrawnBefore_35 rfl (lv_at hl 1 rfl) ?_
    refine ln_iald (L := 48) (g := (M 2)) hx hb hE hP 2 0 (by decide) (rfl) rfl (by omega) (by decide) dS_isDrawnBefore_36 ?_
    refine lv_iconst (v := nI 1) hx hb dS_isDrawnBefore_37 (by decide) ?_
    refine lv_icmp_ne (tgt := 64) hx hb dS_isDrawnBefore_38 (by decide) (fun c_38 => ?_) (fun c_38 => ?_)
    · skip
      refine lv_aload_n hx hb dS_isDrawnBefore_64 rfl (lv_at hl 0 rfl) ?_
      refine bw_get (own := RS) (ci := 1) (C := RS) (T := TS) (N := 14) (v := .ref (ad 154)) hx hb hts inS hown hE hP 0 (by decide) rfl rfl 11 (by decide) w_99 rfl rfl dS_isDrawnBefore_65 ?_
      refine lv_iload_n hx hb dS_isDrawnBefore_68 rfl (lv_at hl 1 rfl) ?_
      refine ln_iald (L := 48) (g := (M 154)) hx hb hE hP 154 0 (by decide) (rfl) rfl (by omega) (by decide) dS_isDrawnBefore_69 ?_
      refine lv_aload_n hx hb dS_isDrawnBefore_70 rfl (lv_at hl 0 rfl) ?_
      refine bw_get (own := RS) (ci := 1) (C := RS) (T := TS) (N := 14) (v := .ref (ad 154)) hx hb hts inS hown hE hP 0 (by decide) rfl rfl 11 (by decide) w_99 rfl rfl dS_isDrawnBefore_71 ?_
      refine lv_iload_n hx hb dS_isDrawnBefore_74 rfl (lv_at hl 2 rfl) ?_
      refine ln_iald (L := 48) (g := (M 154)) hx hb hE hP 154 0 (by decide) (rfl) rfl (by omega) (by decide) dS_isDrawnBefore_75 ?_
      refine lv_icmp_le (tgt := 83) hx hb dS_isDrawnBefore_76 (by decide) (fun c_76 => ?_) (fun c_76 => ?_)
      · skip
        refine lv_iconst (v := nI 0) hx hb dS_isDrawnBefore_83 (by decide) ?_
        exact W.zret (v := nI 0) (ty := .boolean) hx hb hr (by decide) (fun t ht hW => ⟨_, rfl, jb.zero (by unfold jbef; rw [if_pos c_12, if_neg c_38]; simp only [Int32.lt_iff_toInt_lt, Int32.le_iff_toInt_le] at c_76 ⊢; omega), ht⟩) (fun _ h => nomatch h) dS_isDrawnBefore_84
      · skip
        refine lv_iconst (v := nI 1) hx hb dS_isDrawnBefore_79 (by decide) ?_
        refine lv_goto (tgt := 84) hx hb dS_isDrawnBefore_80 (by decide) ?_
        exact W.zret (v := nI 1) (ty := .boolean) hx hb hr (by decide) (fun t ht hW => ⟨_, rfl, jb.one (by unfold jbef; rw [if_pos c_12, if_neg c_38]; simp only [Int32.lt_iff_toInt_lt, Int32.le_iff_toInt_le] at c_76 ⊢; omega), ht⟩) (fun _ h => nomatch h) dS_isDrawnBefore_84
    · skip
      refine lv_aload_n hx hb dS_isDrawnBefore_41 rfl (lv_at hl 0 rfl) ?_
      refine bw_get (own := RS) (ci := 1) (C := RS) (T := TS) (N := 14) (v := .ref (ad 154)) hx hb hts inS hown hE hP 0 (by decide) rfl rfl 11 (by decide) w_99 rfl rfl dS_isDrawnBefore_42 ?_
      refine lv_iload_n hx hb dS_isDrawnBefore_45 rfl (lv_at hl 1 rfl) ?_
      refine ln_iald (L := 48) (g := (M 154)) hx hb hE hP 154 0 (by decide) (rfl) rfl (by omega) (by decide) dS_isDrawnBefore_46 ?_
      refine lv_aload_n hx hb dS_isDrawnBefore_47 rfl (lv_at hl 0 rfl) ?_
      refine bw_get (own := RS) (ci := 1) (C := RS) (T := TS) (N := 14) (v := .ref (ad 154)) hx hb hts inS hown hE hP 0 (by decide) rfl rfl 11 (by decide) w_99 rfl rfl dS_isDrawnBefore_48 ?_
      refine lv_iload_n hx hb dS_isDrawnBefore_51 rfl (lv_at hl 2 rfl) ?_
      refine ln_iald (L := 48) (g := (M 154)) hx hb hE hP 154 0 (by decide) (rfl) rfl (by omega) (by decide) dS_isDrawnBefore_52 ?_
      refine lv_icmp_ge (tgt := 60) hx hb dS_isDrawnBefore_53 (by decide) (fun c_53 => ?_) (fun c_53 => ?_)
      · skip
        refine lv_iconst (v := nI 0) hx hb dS_isDrawnBefore_60 (by decide) ?_
        refine lv_goto (tgt := 84) hx hb dS_isDrawnBefore_61 (by decide) ?_
        exact W.zret (v := nI 0) (ty := .boolean) hx hb hr (by decide) (fun t ht hW => ⟨_, rfl, jb.zero (by unfold jbef; rw [if_pos c_12, if_pos c_38]; simp only [Int32.lt_iff_toInt_lt, Int32.le_iff_toInt_le] at c_53 ⊢; omega), ht⟩) (fun _ h => nomatch h) dS_isDrawnBefore_84
      · skip
        refine lv_iconst (v := nI 1) hx hb dS_isDrawnBefore_56 (by decide) ?_
        refine lv_goto (tgt := 84) hx hb dS_isDrawnBefore_57 (by decide) ?_
        exact W.zret (v := nI 1) (ty := .boolean) hx hb hr (by decide) (fun t ht hW => ⟨_, rfl, jb.one (by unfold jbef; rw [if_pos c_12, if_pos c_38]; simp only [Int32.lt_iff_toInt_lt, Int32.le_iff_toInt_le] at c_53 ⊢; omega), ht⟩) (fun _ h => nomatch h) dS_isDrawnBefore_84
  · skip
    refine lv_aload_n hx hb dS_isDrawnBefore_15 rfl (lv_at hl 0 rfl) ?_
    refine bw_get (own := RS) (ci := 1) (C := RS) (T := TS) (N := 14) (v := .ref (ad 2)) hx hb hts inS hown hE hP 0 (by decide) rfl rfl 2 (by decide) w_90 rfl rfl dS_isDrawnBefore_16 ?_
    refine lv_iload_n hx hb dS_isDrawnBefore_19 rfl (lv_at hl 1 rfl) ?_
    refine ln_iald (L := 48) (g := (M 2)) hx hb hE hP 2 0 (by decide) (rfl) rfl (by omega) (by decide) dS_isDrawnBefore_20 ?_
    refine lv_iconst (v := nI 1) hx hb dS_isDrawnBefore_21 (by decide) ?_
    refine lv_icmp_ne (tgt := 29) hx hb dS_isDrawnBefore_22 (by decide) (fun c_22 => ?_) (fun c_22 => ?_)
    · skip
      refine lv_iconst (v := nI 0) hx hb dS_isDrawnBefore_29 (by decide) ?_
      exact W.zret (v := nI 0) (ty := .boolean) hx hb hr (by decide) (fun t ht hW => ⟨_, rfl, jb.zero (by unfold jbef; rw [if_neg c_12]; exact c_22), ht⟩) (fun _ h => nomatch h) dS_isDrawnBefore_30
    · skip
      refine lv_iconst (v := nI 1) hx hb dS_isDrawnBefore_25 (by decide) ?_
      refine lv_goto (tgt := 30) hx hb dS_isDrawnBefore_26 (by decide) ?_
      exact W.zret (v := nI 1) (ty := .boolean) hx hb hr (by decide) (fun t ht hW => ⟨_, rfl, jb.one (by unfold jbef; rw [if_neg c_12]; exact c_22), ht⟩) (fun _ h => nomatch h) dS_isDrawnBefore_30
