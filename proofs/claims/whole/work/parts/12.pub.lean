/-! THE ABSTRACT STATE: how many nodes; their parents, kinds, hidden flags, nine numbers; the camera's numbers -/
abbrev Ab : Type := Nat × (Nat → Int32) × (Nat → Int32) × (Nat → Int32) × (Nat → Nat → Int32) × (Nat → Int32)
def aN (A : Ab) : Nat := A.1
def aP (A : Ab) : Nat → Int32 := A.2.1
def aK (A : Ab) : Nat → Int32 := A.2.2.1
def aH (A : Ab) : Nat → Int32 := A.2.2.2.1
def aU (A : Ab) : Nat → Nat → Int32 := A.2.2.2.2.1
def aE (A : Ab) : Nat → Int32 := A.2.2.2.2.2
def aOk (A : Ab) : Prop := aN A ≤ 48 ∧ pOk (aP A) (aN A) ∧ ∀ n, n < aN A → aK A n = 0 ∨ aK A n = nI 1 ∨ aK A n = nI 2
def clrA (A : Ab) : Ab := (0, A.2)
def addA (A : Ab) (p k : Int32) : Ab := (aN A + 1, va_up (aP A) (aN A) p, va_up (aK A) (aN A) k, va_up (aH A) (aN A) 0, va_up (aU A) (aN A) (fun j => if j < 6 then 0 else 65536), aE A)
def setA (A : Ab) (n w : Nat) (x y z : Int32) : Ab := (aN A, aP A, aK A, aH A, va_up (aU A) n (jput (aU A n) w x y z), aE A)
def hangA (A : Ab) (n : Nat) (p : Int32) : Ab := (aN A, va_up (aP A) n p, aK A, aH A, aU A, aE A)
def hideA (A : Ab) (n : Nat) (b : Int32) : Ab := (aN A, aP A, aK A, va_up (aH A) n (vp_nar .boolean b), aU A, aE A)
def camA (A : Ab) (w : Nat) (x y z : Int32) : Ab := (aN A, aP A, aK A, aH A, aU A, jput (aE A) w x y z)
def pNode (A : Ab) (n : Int32) : Prop := 0 ≤ n ∧ n < nI (aN A)
def pAdd (A : Ab) (p k : Int32) : Prop := aN A < 48 ∧ ((-1) ≤ p ∧ p < nI (aN A)) ∧ (0 ≤ k ∧ k ≤ nI 2)
def pSet (A : Ab) (n w x y z : Int32) : Prop := pNode A n ∧ (0 ≤ w ∧ w ≤ nI 2) ∧ jcan (jw w) x ∧ jcan (jw w) y ∧ jcan (jw w) z
def pHang (A : Ab) (n p : Int32) : Prop := pNode A n ∧ ((-1) ≤ p ∧ p < n)
def pCam (w x y z : Int32) : Prop := (0 ≤ w ∧ w ≤ nI 1) ∧ jcan (jw w) x ∧ jcan (jw w) y ∧ jcan (jw w) z
/-- the class's cells hold the abstract state, and its stores of LOCAL, WORLD, VIEW are right -/
def Cls (A : Ab) (M : Nat → Nat → Int32) : Prop := aOk A ∧ M 0 0 = nI (aN A) ∧ (∀ n, n < aN A → M 1 n = aP A n ∧ M 2 n = aK A n ∧ M 3 n = aH A n ∧ (∀ j, j < 9 → M (5 + n) j = aU A n j) ∧ ∀ t, t < 12 → M (54 + n) t = jlocal (aU A n) t) ∧ (∀ j, j < 9 → M 151 j = aE A j) ∧ (∀ t, t < 12 → M 152 t = jview (aE A) t) ∧ sTZ M ∧ ∃ r, r ≤ aN A ∧ M 0 7 = nI r ∧ wOk M r
theorem rng_lt {x : Int32} {a : Nat} (h0 : 0 ≤ x) (h : x < nI a) (ha : a < 2147483648) : ∃ j, j < a ∧ x = nI j := by
  rcases pk_ix x ha with q | q | q
  · simp only [Int32.lt_iff_toInt_lt, Int32.le_iff_toInt_le] at h0 q; omega
  · simp only [Int32.lt_iff_toInt_lt, Int32.le_iff_toInt_le] at h q; omega
  · exact q
theorem rng_le {x : Int32} {a : Nat} (h0 : 0 ≤ x) (h : x ≤ nI a) (ha : a < 1000000) : ∃ j, j < a + 1 ∧ x = nI j := by
  refine rng_lt h0 ?_ (by omega)
  simp only [Int32.lt_iff_toInt_lt, Int32.le_iff_toInt_le] at h ⊢
  rw [nI_toInt (by omega)] at h ⊢
  omega
theorem par_ok {x : Int32} {a : Nat} (h : (-1) ≤ x ∧ x < nI a) (ha : a < 2147483648) : x < 0 ∨ ∃ q, q < a ∧ x = nI q := by
  by_cases c : x < 0
  · exact Or.inl c
  · exact Or.inr (rng_lt (by simp only [Int32.lt_iff_toInt_lt, Int32.le_iff_toInt_le] at c ⊢; omega) h.2 ha)
theorem wOk_keep {M M1 : Nat → Nat → Int32} {r r1 : Nat} (hw : wOk M r) (hr : r1 ≤ r) (h48 : r1 ≤ 48) (hp : pOk (M 1) r1) (h1 : ∀ n, n < r1 → M1 1 n = M 1 n) (h2 : ∀ n, n < r1 → ∀ t, t < 12 → M1 (54 + n) t = M (54 + n) t) (h3 : ∀ n, n < r1 → ∀ t, t < 12 → M1 (103 + n) t = M (103 + n) t) : wOk M1 r1 := by
  intro n hn t ht
  rw [h3 n hn t ht, hw n (by omega) t ht]
  exact (jworld_congr hp (by omega) h1 h2 n hn t ht).symm
theorem sTZ_keep {M M1 : Nat → Nat → Int32} (h : sTZ M) (e : ∀ q, 157 ≤ q → q < 160 → M1 q = M q) : sTZ M1 :=
  ⟨fun t ht => by rw [e 157 (by decide) (by decide)]; exact h.1 t ht, fun t ht => by rw [e 158 (by decide) (by decide)]; exact h.2.1 t ht, fun t ht => by rw [e 159 (by decide) (by decide)]; exact h.2.2 t ht⟩
theorem jlocal_congr {u u' : Nat → Int32} (h : ∀ j, j < 9 → u j = u' j) {t : Nat} (ht : t < 12) : jlocal u t = jlocal u' t := by
  unfold jlocal
  rw [h 3 (by decide), h 4 (by decide), h 5 (by decide)]
  exact jlc_congr (fun _ _ => rfl) h (by omega) (by omega)
theorem jview_congr {u u' : Nat → Int32} (h : ∀ j, j < 9 → u j = u' j) {t : Nat} (ht : t < 12) : jview u t = jview u' t := by
  unfold jview
  rw [h 3 (by decide), h 4 (by decide), h 5 (by decide)]
  exact jvc_congr (fun _ _ => rfl) h (by omega) (by omega)
theorem jput_congr {u u' : Nat → Int32} (h : ∀ j, j < 9 → u j = u' j) (w : Nat) (x y z : Int32) {j : Nat} (hj : j < 9) : jput u w x y z j = jput u' w x y z j := by
  unfold jput upd
  by_cases c1 : j = 3 * w + 2
  · simp [c1]
  · by_cases c2 : j = 3 * w + 1
    · simp [c2]
    · by_cases c3 : j = 3 * w
      · simp [c3]
      · simp [c1, c2, c3, h j hj]
theorem pOk_le {par : Nat → Int32} {N r : Nat} (h : pOk par N) (hr : r ≤ N) : pOk par r := fun n hn => h n (by omega)
theorem Cls.pok {A : Ab} {M : Nat → Nat → Int32} (h : Cls A M) : pOk (M 1) (aN A) := fun n hn => by rw [(h.2.2.1 n hn).1]; exact h.1.2.1 n hn
theorem Cls.kok {A : Ab} {M : Nat → Nat → Int32} (h : Cls A M) : ∀ n, n < aN A → M 2 n = 0 ∨ M 2 n = nI 1 ∨ M 2 n = nI 2 := fun n hn => by rw [(h.2.2.1 n hn).2.1]; exact h.1.2.2 n hn
theorem Cls.clr {A : Ab} {M M1 M2 : Nat → Nat → Int32} (h : Cls A M) (e1 : M1 = va_up M 0 (upd (M 0) 0 (nI 0))) (e2 : M2 = va_up M1 0 (upd (M1 0) 7 (nI 0))) : Cls (clrA A) M2 := by
  have f : ∀ q, q ≠ 0 → M2 q = M q := fun q hq => by rw [e2, va_up_ne _ _ hq, e1, va_up_ne _ _ hq]
  obtain ⟨a1, a2, a3, a4, a5, a6, a7⟩ := h
  refine ⟨⟨Nat.zero_le _, fun n hn => absurd hn (Nat.not_lt_zero _), fun n hn => absurd hn (Nat.not_lt_zero _)⟩, ?_, fun n hn => absurd hn (Nat.not_lt_zero _), fun j hj => by rw [f 151 (by decide)]; exact a4 j hj, fun t ht => by rw [f 152 (by decide)]; exact a5 t ht, sTZ_keep a6 (fun q h1 _ => f q (by omega)), 0, Nat.zero_le _, ?_, fun n hn => absurd hn (Nat.not_lt_zero _)⟩
  · rw [e2, va_up_self, pk_un (by decide), e1, va_up_self, pk_us]; rfl
  · rw [e2, va_up_self, pk_us]
theorem Cls.set {A : Ab} {M M1 M2 M3 : Nat → Nat → Int32} {j w r : Nat} {x y z : Int32} (h : Cls A M) (hj : j < aN A) (hr : r ≤ aN A) (hw : wOk M r) (e1 : M1 = va_up M (5 + j) (jput (M (5 + j)) w x y z)) (h2 : (∀ q, q < 157 → q ≠ 54 + j → M2 q = M1 q) ∧ sTZ M2 ∧ ∀ t, t < 12 → M2 (54 + j) t = jlocal (M1 (5 + j)) t) (e3 : M3 = va_up M2 0 (upd (M2 0) 7 (nI (min r j)))) : Cls (setA A j w x y z) M3 := by
  have hpk := h.pok
  obtain ⟨a1, a2, a3, a4, a5, a6, -⟩ := h
  have hN := a1.1
  have f : ∀ q, q ≠ 0 → q < 157 → q ≠ 5 + j → q ≠ 54 + j → M3 q = M q := fun q h0 h1 h3 h4 => by rw [e3, va_up_ne _ _ h0, h2.1 q h1 h4, e1, va_up_ne _ _ h3]
  have f0 : ∀ t, t ≠ 7 → M3 0 t = M 0 t := fun t ht => by rw [e3, va_up_self, pk_un ht, h2.1 0 (by decide) (by omega), e1, va_up_ne _ _ (by omega)]
  have fu : M3 (5 + j) = jput (M (5 + j)) w x y z := by rw [e3, va_up_ne _ _ (by omega), h2.1 (5 + j) (by omega) (by omega), e1, va_up_self]
  have fl : ∀ t, t < 12 → M3 (54 + j) t = jlocal (jput (M (5 + j)) w x y z) t := fun t ht => by rw [e3, va_up_ne _ _ (by omega), h2.2.2 t ht, e1, va_up_self]
  have fjp : ∀ i, i < 9 → jput (M (5 + j)) w x y z i = jput (aU A j) w x y z i := fun i hi => jput_congr (a3 j hj).2.2.2.1 w x y z hi
  refine ⟨a1, by rw [f0 0 (by decide)]; exact a2, fun n hn => ?_, fun i hi => by rw [f 151 (by decide) (by decide) (by omega) (by omega)]; exact a4 i hi, fun t ht => by rw [f 152 (by decide) (by decide) (by omega) (by omega)]; exact a5 t ht, sTZ_keep h2.2.1 (fun q h1 _ => by rw [e3, va_up_ne _ _ (by omega)]), min r j, (show min r j ≤ aN A by omega), by rw [e3, va_up_self, pk_us], ?_⟩
  · have hn' : n < aN A := hn
    obtain ⟨b1, b2, b3, b4, b5⟩ := a3 n hn'
    refine ⟨by rw [f 1 (by decide) (by decide) (by omega) (by omega)]; exact b1, by rw [f 2 (by decide) (by decide) (by omega) (by omega)]; exact b2, by rw [f 3 (by decide) (by decide) (by omega) (by omega)]; exact b3, fun i hi => ?_, fun t ht => ?_⟩
    · by_cases c : n = j
      · subst c
        rw [fu]
        show _ = va_up (aU A) n (jput (aU A n) w x y z) n i
        rw [va_up_self]; exact fjp i hi
      · rw [f (5 + n) (by omega) (by omega) (by omega) (by omega)]
        show _ = va_up (aU A) j _ n i
        rw [va_up_ne _ _ c]; exact b4 i hi
    · by_cases c : n = j
      · subst c
        rw [fl t ht]
        show _ = jlocal (va_up (aU A) n (jput (aU A n) w x y z) n) t
        rw [va_up_self]; exact jlocal_congr fjp ht
      · rw [f (54 + n) (by omega) (by omega) (by omega) (by omega)]
        show _ = jlocal (va_up (aU A) j _ n) t
        rw [va_up_ne _ _ c]; exact b5 t ht
  · exact wOk_keep hw (by omega) (by omega) (pOk_le hpk (by omega)) (fun n hn => by rw [f 1 (by decide) (by decide) (by omega) (by omega)]) (fun n hn t _ => by rw [f (54 + n) (by omega) (by omega) (by omega) (by omega)]) (fun n hn t _ => by rw [f (103 + n) (by omega) (by omega) (by omega) (by omega)])
theorem Cls.hang {A : Ab} {M M1 M2 : Nat → Nat → Int32} {j r : Nat} {p : Int32} (h : Cls A M) (hj : j < aN A) (hp : (-1) ≤ p ∧ p < nI j) (hr : r ≤ aN A) (hw : wOk M r) (e1 : M1 = va_up M 1 (upd (M 1) j p)) (e2 : M2 = va_up M1 0 (upd (M1 0) 7 (nI (min r j)))) : Cls (hangA A j p) M2 := by
  have hpk := h.pok
  obtain ⟨a1, a2, a3, a4, a5, a6, -⟩ := h
  have hN := a1.1
  have f : ∀ q, q ≠ 0 → q ≠ 1 → M2 q = M q := fun q h0 h1 => by rw [e2, va_up_ne _ _ h0, e1, va_up_ne _ _ h1]
  have f0 : ∀ t, t ≠ 7 → M2 0 t = M 0 t := fun t ht => by rw [e2, va_up_self, pk_un ht, e1, va_up_ne _ _ (by decide)]
  have f1 : M2 1 = upd (M 1) j p := by rw [e2, va_up_ne _ _ (by decide), e1, va_up_self]
  refine ⟨⟨a1.1, fun n hn => ?_, a1.2.2⟩, by rw [f0 0 (by decide)]; exact a2, fun n hn => ?_, fun i hi => by rw [f 151 (by decide) (by decide)]; exact a4 i hi, fun t ht => by rw [f 152 (by decide) (by decide)]; exact a5 t ht, sTZ_keep a6 (fun q h1 _ => f q (by omega) (by omega)), min r j, (show min r j ≤ aN A by omega), by rw [e2, va_up_self, pk_us], ?_⟩
  · show va_up (aP A) j p n < 0 ∨ ∃ q, q < n ∧ va_up (aP A) j p n = nI q
    by_cases c : n = j
    · subst c; rw [va_up_self]; exact par_ok hp (by omega)
    · rw [va_up_ne _ _ c]; exact a1.2.1 n hn
  · obtain ⟨b1, b2, b3, b4, b5⟩ := a3 n hn
    refine ⟨?_, by rw [f 2 (by decide) (by decide)]; exact b2, by rw [f 3 (by decide) (by decide)]; exact b3, fun i hi => by rw [f (5 + n) (by omega) (by omega)]; exact b4 i hi, fun t ht => by rw [f (54 + n) (by omega) (by omega)]; exact b5 t ht⟩
    show M2 1 n = va_up (aP A) j p n
    rw [f1]
    by_cases c : n = j
    · subst c; rw [va_up_self, pk_us]
    · rw [va_up_ne _ _ c, pk_un c]; exact b1
  · exact wOk_keep hw (by omega) (by omega) (pOk_le hpk (by omega)) (fun n hn => by rw [f1, pk_un (by omega)]) (fun n hn t _ => by rw [f (54 + n) (by omega) (by omega)]) (fun n hn t _ => by rw [f (103 + n) (by omega) (by omega)])
theorem Cls.hide {A : Ab} {M M1 : Nat → Nat → Int32} {j : Nat} {b : Int32} (h : Cls A M) (hj : j < aN A) (e1 : M1 = va_up M 3 (upd (M 3) j (vp_nar .boolean b))) : Cls (hideA A j b) M1 := by
  have hpk := h.pok
  obtain ⟨a1, a2, a3, a4, a5, a6, r, a7, a8, a9⟩ := h
  have hN := a1.1
  have f : ∀ q, q ≠ 3 → M1 q = M q := fun q h0 => by rw [e1, va_up_ne _ _ h0]
  refine ⟨a1, by rw [f 0 (by decide)]; exact a2, fun n hn => ?_, fun i hi => by rw [f 151 (by decide)]; exact a4 i hi, fun t ht => by rw [f 152 (by decide)]; exact a5 t ht, sTZ_keep a6 (fun q h1 _ => f q (by omega)), r, a7, by rw [f 0 (by decide)]; exact a8, wOk_keep a9 (Nat.le_refl _) (by omega) (pOk_le hpk a7) (fun n hn => by rw [f 1 (by decide)]) (fun n hn t _ => by rw [f (54 + n) (by omega)]) (fun n hn t _ => by rw [f (103 + n) (by omega)])⟩
  obtain ⟨b1, b2, b3, b4, b5⟩ := a3 n hn
  refine ⟨by rw [f 1 (by decide)]; exact b1, by rw [f 2 (by decide)]; exact b2, ?_, fun i hi => by rw [f (5 + n) (by omega)]; exact b4 i hi, fun t ht => by rw [f (54 + n) (by omega)]; exact b5 t ht⟩
  show M1 3 n = va_up (aH A) j _ n
  rw [e1, va_up_self]
  by_cases c : n = j
  · subst c; rw [va_up_self, pk_us]
  · rw [va_up_ne _ _ c, pk_un c]; exact b3
theorem Cls.cam {A : Ab} {M M1 M2 : Nat → Nat → Int32} {w : Nat} {x y z : Int32} (h : Cls A M) (e1 : M1 = va_up M 151 (jput (M 151) w x y z)) (h2 : (∀ q, q < 157 → q ≠ 152 → M2 q = M1 q) ∧ sTZ M2 ∧ ∀ t, t < 12 → M2 152 t = jview (M1 151) t) : Cls (camA A w x y z) M2 := by
  have hpk := h.pok
  obtain ⟨a1, a2, a3, a4, a5, a6, r, a7, a8, a9⟩ := h
  have hN := a1.1
  have f : ∀ q, q < 157 → q ≠ 151 → q ≠ 152 → M2 q = M q := fun q h0 h1 h3 => by rw [h2.1 q h0 h3, e1, va_up_ne _ _ h1]
  have fe : ∀ i, i < 9 → M2 151 i = jput (aE A) w x y z i := fun i hi => by rw [h2.1 151 (by decide) (by decide), e1, va_up_self]; exact jput_congr a4 w x y z hi
  refine ⟨a1, by rw [f 0 (by decide) (by decide) (by decide)]; exact a2, fun n hn => ?_, fe, fun t ht => ?_, h2.2.1, r, a7, by rw [f 0 (by decide) (by decide) (by decide)]; exact a8, wOk_keep a9 (Nat.le_refl _) (by omega) (pOk_le hpk a7) (fun n hn => by rw [f 1 (by decide) (by decide) (by decide)]) (fun n hn t _ => by rw [f (54 + n) (by omega) (by omega) (by omega)]) (fun n hn t _ => by rw [f (103 + n) (by omega) (by omega) (by omega)])⟩
  · have hn' : n < aN A := hn
    obtain ⟨b1, b2, b3, b4, b5⟩ := a3 n hn
    exact ⟨by rw [f 1 (by decide) (by decide) (by decide)]; exact b1, by rw [f 2 (by decide) (by decide) (by decide)]; exact b2, by rw [f 3 (by decide) (by decide) (by decide)]; exact b3, fun i hi => by rw [f (5 + n) (by omega) (by omega) (by omega)]; exact b4 i hi, fun t ht => by rw [f (54 + n) (by omega) (by omega) (by omega)]; exact b5 t ht⟩
  · rw [h2.2.2 t ht, e1, va_up_self]
    exact jview_congr (fun i hi => jput_congr a4 w x y z hi) ht
theorem Cls.add {A : Ab} {M M1 M2 M3 M4 M5 M6 M7 M8 : Nat → Nat → Int32} {p k : Int32} (h : Cls A M) (hN : aN A < 48) (hp : (-1) ≤ p ∧ p < nI (aN A)) (hk : 0 ≤ k ∧ k ≤ nI 2) (e1 : M1 = va_up M 0 (upd (M 0) 0 (nI (aN A + 1)))) (e2 : M2 = va_up M1 1 (upd (M1 1) (aN A) p)) (e3 : M3 = va_up M2 2 (upd (M2 2) (aN A) k)) (e4 : M4 = va_up M3 3 (upd (M3 3) (aN A) (vp_nar .boolean (nI 0)))) (e5 : M5 = va_up M4 (5 + aN A) (jput (M4 (5 + aN A)) 0 (nI 0) (nI 0) (nI 0))) (e6 : M6 = va_up M5 (5 + aN A) (jput (M5 (5 + aN A)) 1 (nI 0) (nI 0) (nI 0))) (e7 : M7 = va_up M6 (5 + aN A) (jput (M6 (5 + aN A)) 2 65536 65536 65536)) (h8 : (∀ q, q < 157 → q ≠ 54 + aN A → M8 q = M7 q) ∧ sTZ M8 ∧ ∀ t, t < 12 → M8 (54 + aN A) t = jlocal (M7 (5 + aN A)) t) : Cls (addA A p k) M8 := by
  have hpk := h.pok
  obtain ⟨a1, a2, a3, a4, a5, a6, r, a7, a8, a9⟩ := h
  have f : ∀ q, q ≠ 0 → q ≠ 1 → q ≠ 2 → q ≠ 3 → q ≠ 5 + aN A → q ≠ 54 + aN A → q < 157 → M8 q = M q := fun q h0 h1 h2 h3 h4 h5 h6 => by rw [h8.1 q h6 h5, e7, va_up_ne _ _ h4, e6, va_up_ne _ _ h4, e5, va_up_ne _ _ h4, e4, va_up_ne _ _ h3, e3, va_up_ne _ _ h2, e2, va_up_ne _ _ h1, e1, va_up_ne _ _ h0]
  have g7 : ∀ q, q ≠ 5 + aN A → M7 q = M4 q := fun q hq => by rw [e7, va_up_ne _ _ hq, e6, va_up_ne _ _ hq, e5, va_up_ne _ _ hq]
  have f0 : M8 0 = upd (M 0) 0 (nI (aN A + 1)) := by rw [h8.1 0 (by decide) (by omega), g7 0 (by omega), e4, va_up_ne _ _ (by decide), e3, va_up_ne _ _ (by decide), e2, va_up_ne _ _ (by decide), e1, va_up_self]
  have f1 : M8 1 = upd (M 1) (aN A) p := by rw [h8.1 1 (by decide) (by omega), g7 1 (by omega), e4, va_up_ne _ _ (by decide), e3, va_up_ne _ _ (by decide), e2, va_up_self, e1, va_up_ne _ _ (by decide)]
  have f2 : M8 2 = upd (M 2) (aN A) k := by rw [h8.1 2 (by decide) (by omega), g7 2 (by omega), e4, va_up_ne _ _ (by decide), e3, va_up_self, e2, va_up_ne _ _ (by decide), e1, va_up_ne _ _ (by decide)]
  have f3 : M8 3 = upd (M 3) (aN A) (vp_nar .boolean (nI 0)) := by rw [h8.1 3 (by decide) (by omega), g7 3 (by omega), e4, va_up_self, e3, va_up_ne _ _ (by decide), e2, va_up_ne _ _ (by decide), e1, va_up_ne _ _ (by decide)]
  have fu : ∀ j, j < 9 → M7 (5 + aN A) j = if j < 6 then 0 else 65536 := by
    intro j hj
    rw [e7, va_up_self, e6, va_up_self, e5, va_up_self]
    rcases (show j = 0 ∨ j = 1 ∨ j = 2 ∨ j = 3 ∨ j = 4 ∨ j = 5 ∨ j = 6 ∨ j = 7 ∨ j = 8 by omega) with rfl | rfl | rfl | rfl | rfl | rfl | rfl | rfl | rfl <;> rfl
  have hk3 : k = 0 ∨ k = nI 1 ∨ k = nI 2 := by
    obtain ⟨q, hq, rfl⟩ := rng_le hk.1 hk.2 (by decide)
    rcases (show q = 0 ∨ q = 1 ∨ q = 2 by omega) with rfl | rfl | rfl
    · exact Or.inl rfl
    · exact Or.inr (Or.inl rfl)
    · exact Or.inr (Or.inr rfl)
  refine ⟨⟨(show aN A + 1 ≤ 48 by omega), fun n hn => ?_, fun n hn => ?_⟩, by rw [f0, pk_us]; rfl, fun n hn => ?_, fun i hi => by rw [f 151 (by decide) (by decide) (by decide) (by decide) (by omega) (by omega) (by decide)]; exact a4 i hi, fun t ht => by rw [f 152 (by decide) (by decide) (by decide) (by decide) (by omega) (by omega) (by decide)]; exact a5 t ht, h8.2.1, r, (show r ≤ aN A + 1 by omega), by rw [f0, pk_un (by decide)]; exact a8, ?_⟩
  · have hn' : n < aN A + 1 := hn
    show va_up (aP A) (aN A) p n < 0 ∨ ∃ q, q < n ∧ va_up (aP A) (aN A) p n = nI q
    by_cases c : n = aN A
    · rw [c, va_up_self]; exact par_ok hp (by omega)
    · rw [va_up_ne _ _ c]; exact a1.2.1 n (by omega)
  · have hn' : n < aN A + 1 := hn
    show va_up (aK A) (aN A) k n = 0 ∨ va_up (aK A) (aN A) k n = nI 1 ∨ va_up (aK A) (aN A) k n = nI 2
    by_cases c : n = aN A
    · rw [c, va_up_self]; exact hk3
    · rw [va_up_ne _ _ c]; exact a1.2.2 n (by omega)
  · have hn' : n < aN A + 1 := hn
    show M8 1 n = va_up (aP A) (aN A) p n ∧ M8 2 n = va_up (aK A) (aN A) k n ∧ M8 3 n = va_up (aH A) (aN A) 0 n ∧ (∀ j, j < 9 → M8 (5 + n) j = va_up (aU A) (aN A) (fun j => if j < 6 then 0 else 65536) n j) ∧ ∀ t, t < 12 → M8 (54 + n) t = jlocal (va_up (aU A) (aN A) (fun j => if j < 6 then 0 else 65536) n) t
    by_cases c : n = aN A
    · rw [c, f1, f2, f3]
      simp only [va_up_self, pk_us]
      refine ⟨trivial, trivial, by decide, fun j hj => by rw [h8.1 (5 + aN A) (by omega) (by omega)]; exact fu j hj, fun t ht => by rw [h8.2.2 t ht]; exact jlocal_congr fu ht⟩
    · obtain ⟨b1, b2, b3, b4, b5⟩ := a3 n (by omega)
      rw [f1, f2, f3, va_up_ne _ _ c, va_up_ne _ _ c, va_up_ne _ _ c, va_up_ne _ _ c, pk_un c, pk_un c, pk_un c, f (5 + n) (by omega) (by omega) (by omega) (by omega) (by omega) (by omega) (by omega), f (54 + n) (by omega) (by omega) (by omega) (by omega) (by omega) (by omega) (by omega)]
      exact ⟨b1, b2, b3, b4, b5⟩
  · exact wOk_keep a9 (Nat.le_refl _) (by omega) (pOk_le hpk a7) (fun n hn => by rw [f1, pk_un (by omega)]) (fun n hn t _ => by rw [f (54 + n) (by omega) (by omega) (by omega) (by omega) (by omega) (by omega) (by omega)]) (fun n hn t _ => by rw [f (103 + n) (by omega) (by omega) (by omega) (by omega) (by omega) (by omega) (by omega)])

set_option maxHeartbeats 4000000 in
set_option maxRecDepth 100000 in
theorem kS_count (l : Launch) (D : va_G) (cs : Nat → ClassId) (ad : Nat → Nat) (hI : bw_I ad 162) (M : Nat → Nat → Int32) (sz : Nat) (A : Ab) (hC : Cls A M)  : Met l yS_count (wc yS_count cS_count 1 (some .int)) ({ frames := 0, cells := 0, slots := 0, locals := 0 } : Room) (va_Pc [.ref (ad 0)] (sP D cs ad M sz)) (vp_Si (fun r => r = nI (aN A))) 0 0 (fun _ => False) := by
  refine Met.ofW (cc := cS_count) (maxL := 1) (ret := (some .int)) (by decide +kernel) rfl ?_
  intro p e s m args below meth c s₁ B hml hv
  obtain ⟨rfl, hsz, hP, hE⟩ := hv
  subst hsz
  have hx := B.exec
  have hb := B.bytes
  have hr := B.returns
  have hts : ∀ w9 ∈ ws_all, w9.before ([.ref (ad 0)] : List Value).toArray s = true := fun w9 h => atoms_spec (ws := (wc yS_count cS_count 1 (some .int))) B.pre w9 (List.mem_cons_of_mem _ h)
  have hown : s.vm.findClass RS = some m.cls := findClass_of_methodNamed B.named
  have hlocks := B.notSynchronized
  have hl := lv_entry ([.ref (ad 0)]) (n := 1) (Nat.le_of_ble_eq_true rfl)
  rw [lg_entry_eq]
  generalize (lg_sl ([.ref (ad 0)]) ++ List.replicate (1 - (lg_sl ([.ref (ad 0)])).length) Slot.unset).toArray = ls at hl ⊢
  have hl : lv_has ls 1 [(0, .ref (ad 0))] := hl
  obtain ⟨hA, hn, hrow, heye, hview, hz, rr, hrr, hr7, hw⟩ := id hC
  have hN : aN A ≤ 48 := hA.1
  refine lv_aload_n hx hb dS_count_0 rfl (lv_at hl 0 rfl) ?_
  refine bw_get (own := RS) (ci := 1) (C := RS) (T := TS) (N := 14) (v := .int (M 0 0)) hx hb hts inS hown hE hP 0 (by decide) rfl rfl 0 (by decide) w_88 rfl rfl dS_count_1 ?_
  exact W.iret (v := M 0 0) hx hb hr (fun t ht hW => ⟨_, rfl, hn, ht⟩) (fun _ h => nomatch h) dS_count_4

set_option maxHeartbeats 4000000 in
set_option maxRecDepth 100000 in
theorem kS_clear (l : Launch) (D : va_G) (cs : Nat → ClassId) (ad : Nat → Nat) (hI : bw_I ad 162) (M : Nat → Nat → Int32) (sz : Nat) (A : Ab) (hC : Cls A M)  : Met l yS_clear (wc yS_clear cS_clear 1 none) ({ frames := 0, cells := 0, slots := 0, locals := 0 } : Room) (va_Pc [.ref (ad 0)] (sP D cs ad M sz)) (bQv D ad 162 (sc_cell cs ad) sz (fun M1 => Cls (clrA A) M1)) 0 0 (bw_A ad 162 sz) := by
  refine Met.ofW (cc := cS_clear) (maxL := 1) (ret := none) (by decide +kernel) rfl ?_
  intro p e s m args below meth c s₁ B hml hv
  obtain ⟨rfl, hsz, hP, hE⟩ := hv
  subst hsz
  have hx := B.exec
  have hb := B.bytes
  have hr := B.returns
  have hts : ∀ w9 ∈ ws_all, w9.before ([.ref (ad 0)] : List Value).toArray s = true := fun w9 h => atoms_spec (ws := (wc yS_clear cS_clear 1 none)) B.pre w9 (List.mem_cons_of_mem _ h)
  have hown : s.vm.findClass RS = some m.cls := findClass_of_methodNamed B.named
  have hlocks := B.notSynchronized
  have hS : va_S (bw_A ad 162 s.heap.size) s.heap s.heap [] := va_S.rf
  have hl := lv_entry ([.ref (ad 0)]) (n := 1) (Nat.le_of_ble_eq_true rfl)
  rw [lg_entry_eq]
  generalize (lg_sl ([.ref (ad 0)]) ++ List.replicate (1 - (lg_sl ([.ref (ad 0)])).length) Slot.unset).toArray = ls at hl ⊢
  have hl : lv_has ls 1 [(0, .ref (ad 0))] := hl
  refine lv_aload_n hx hb dS_clear_0 rfl (lv_at hl 0 rfl) ?_
  refine lv_iconst (v := nI 0) hx hb dS_clear_1 (by decide) ?_
  refine bw_put (own := RS) (ci := 1) (C := RS) (T := TS) (N := 14) (v := .int (nI 0)) (ty := .int) hx hb hts inS tyS tyS_ok nmS hown hE hI hP hS 0 (by decide) rfl rfl 0 (by decide) w_88 rfl rfl (upd (M 0) 0 (nI 0)) rfl (by decide +kernel) rfl rfl (Nat.le_of_ble_eq_true rfl) dS_clear_2 (fun M_1 H locs eM_1 hP hS => ?_)
  refine lv_aload_n hx hb dS_clear_5 rfl (lv_at hl 0 rfl) ?_
  refine lv_iconst (v := nI 0) hx hb dS_clear_6 (by decide) ?_
  refine bw_put (own := RS) (ci := 1) (C := RS) (T := TS) (N := 14) (v := .int (nI 0)) (ty := .int) hx hb hts inS tyS tyS_ok nmS hown hE hI hP hS 0 (by decide) rfl rfl 7 (by decide) w_95 rfl rfl (upd (M_1 0) 7 (nI 0)) rfl (by decide +kernel) rfl rfl (Nat.le_of_ble_eq_true rfl) dS_clear_7 (fun M_2 H locs eM_2 hP hS => ?_)
  exact W.vret hx hb hr (fun t ht hW => ⟨⟨M_2, rfl, hC.clr eM_1 eM_2, by show va_P _ _ _ t.heap; rw [ht]; exact hP⟩, hS.F ht⟩) hS.2.2 dS_clear_10

set_option maxHeartbeats 4000000 in
set_option maxRecDepth 100000 in
theorem kS_set (l : Launch) (D : va_G) (cs : Nat → ClassId) (ad : Nat → Nat) (hI : bw_I ad 162) (M : Nat → Nat → Int32) (sz : Nat) (A : Ab) (hC : Cls A M) (n q x y z : Int32)  : Met l yS_set (wc yS_set cS_set 6 (some .boolean)) ({ frames := 6, cells := 0, slots := 0, locals := 136 } : Room) (va_Pc [.ref (ad 0), .int n, .int q, .int x, .int y, .int z] (sP D cs ad M sz)) (bQi D ad 162 (sc_cell cs ad) sz (fun r M1 => (r = nI 1 ∧ pSet A n q x y z ∧ Cls (setA A n.toNatClampNeg q.toNatClampNeg x y z) M1) ∨ (r = nI 0 ∧ ¬ pSet A n q x y z ∧ Cls A M1))) 0 0 (bw_A ad 162 sz) := by
  refine Met.ofW (cc := cS_set) (maxL := 6) (ret := (some .boolean)) (by decide +kernel) rfl ?_
  intro p e s m args below meth c s₁ B hml hv
  obtain ⟨rfl, hsz, hP, hE⟩ := hv
  subst hsz
  have hx := B.exec
  have hb := B.bytes
  have hr := B.returns
  have hts : ∀ w9 ∈ ws_all, w9.before ([.ref (ad 0), .int n, .int q, .int x, .int y, .int z] : List Value).toArray s = true := fun w9 h => atoms_spec (ws := (wc yS_set cS_set 6 (some .boolean))) B.pre w9 (List.mem_cons_of_mem _ h)
  have hown : s.vm.findClass RS = some m.cls := findClass_of_methodNamed B.named
  have hlocks := B.notSynchronized
  have hS : va_S (bw_A ad 162 s.heap.size) s.heap s.heap [] := va_S.rf
  have hl := lv_entry ([.ref (ad 0), .int n, .int q, .int x, .int y, .int z]) (n := 6) (Nat.le_of_ble_eq_true rfl)
  rw [lg_entry_eq]
  generalize (lg_sl ([.ref (ad 0), .int n, .int q, .int x, .int y, .int z]) ++ List.replicate (6 - (lg_sl ([.ref (ad 0), .int n, .int q, .int x, .int y, .int z])).length) Slot.unset).toArray = ls at hl ⊢
  have hl : lv_has ls 6 [(0, .ref (ad 0)), (1, .int n), (2, .int q), (3, .int x), (4, .int y), (5, .int z)] := hl
  obtain ⟨hA, hn, hrow, heye, hview, hz, rr, hrr, hr7, hw⟩ := id hC
  have hN : aN A ≤ 48 := hA.1
  refine lv_aload_n hx hb dS_set_0 rfl (lv_at hl 0 rfl) ?_
  refine lv_iload_n hx hb dS_set_1 rfl (lv_at hl 1 rfl) ?_
  refine vp_callSi (va_Run.run (bc_runV (own := RS) (C := RS) (As := [.int n]) (rest := []) hx hb (hml.trans hl.1.symm) hown hts (kS_isNode l D cs ad hI M s.heap.size n) w_157 w_154 w_156 ws_sel_S_isNode w_1 ⟨rfl, hd_S_isNode⟩ rfl ⟨rfl, rfl⟩ ⟨Nat.le_of_ble_eq_true rfl, Nat.le_of_ble_eq_true rfl⟩ (fun _ _ _ _ h => h.calling) (bc_recv (r := (RS, TS, 14)) hE hP 0 (by decide) rfl rfl) (fun U hU hW => ⟨by rw [hU], by rw [hU]; exact hP, hE.warm hW⟩) rfl (Nat.le_of_ble_eq_true rfl) dS_set_2 ⟨Nat.le_of_ble_eq_true rfl, Nat.le_of_ble_eq_true rfl⟩)) (fun r_2 hr_2 => ?_)
  rw [hn] at hr_2
  refine lv_if_eq (tgt := 29) hx hb dS_set_5 (by decide) (fun c_5 => ?_) (fun c_5 => ?_)
  · skip
    refine lv_iconst (v := nI 0) hx hb dS_set_29 (by decide) ?_
    exact W.zret (v := nI 0) (ty := .boolean) hx hb hr (by decide) (fun t ht hW => ⟨⟨_, M, rfl, Or.inr ⟨rfl, fun h9 => hr_2.f c_5 h9.1, hC⟩, by show va_P _ _ _ t.heap; rw [ht]; exact hP⟩, hS.F ht⟩) hS.2.2 dS_set_30
  · skip
    refine lv_iload_n hx hb dS_set_8 rfl (lv_at hl 2 rfl) ?_
    refine lv_if_lt (tgt := 29) hx hb dS_set_9 (by decide) (fun c_9 => ?_) (fun c_9 => ?_)
    · skip
      refine lv_iconst (v := nI 0) hx hb dS_set_29 (by decide) ?_
      exact W.zret (v := nI 0) (ty := .boolean) hx hb hr (by decide) (fun t ht hW => ⟨⟨_, M, rfl, Or.inr ⟨rfl, fun h9 => by have := h9.2.1.1; simp only [Int32.lt_iff_toInt_lt, Int32.le_iff_toInt_le, nI, Int32.reduceOfNat, Int32.reduceToInt] at c_9 this; omega, hC⟩, by show va_P _ _ _ t.heap; rw [ht]; exact hP⟩, hS.F ht⟩) hS.2.2 dS_set_30
    · skip
      refine lv_iload_n hx hb dS_set_12 rfl (lv_at hl 2 rfl) ?_
      refine lv_iconst (v := nI 2) hx hb dS_set_13 (by decide) ?_
      refine lv_icmp_gt (tgt := 29) hx hb dS_set_14 (by decide) (fun c_14 => ?_) (fun c_14 => ?_)
      · skip
        refine lv_iconst (v := nI 0) hx hb dS_set_29 (by decide) ?_
        exact W.zret (v := nI 0) (ty := .boolean) hx hb hr (by decide) (fun t ht hW => ⟨⟨_, M, rfl, Or.inr ⟨rfl, fun h9 => by have := h9.2.1.2; simp only [Int32.lt_iff_toInt_lt, Int32.le_iff_toInt_le, nI, Int32.reduceOfNat, Int32.reduceToInt] at c_14 this; omega, hC⟩, by show va_P _ _ _ t.heap; rw [ht]; exact hP⟩, hS.F ht⟩) hS.2.2 dS_set_30
      · skip
        refine lv_iload_n hx hb dS_set_17 rfl (lv_at hl 2 rfl) ?_
        refine lv_iload_n hx hb dS_set_18 rfl (lv_at hl 3 rfl) ?_
        refine lv_iload hx hb dS_set_19 (lv_at hl 4 rfl) ?_
        refine lv_iload hx hb dS_set_21 (lv_at hl 5 rfl) ?_
        refine vp_callSi (va_Run.run (bc_runS (own := RS) (As := [.int q, .int x, .int y, .int z]) (rest := []) hx hb (hml.trans hl.1.symm) hown hts (kS_canBe l q x y z) w_160 w_158 w_159 w_1 hd_S_canBe rfl ⟨rfl, rfl⟩ ⟨Nat.le_of_ble_eq_true rfl, Nat.le_of_ble_eq_true rfl⟩ (fun _ _ _ _ _ => trivial) (fun _ _ _ => trivial) rfl (Nat.le_of_ble_eq_true rfl) dS_set_23 ⟨Nat.le_of_ble_eq_true rfl, Nat.le_of_ble_eq_true rfl⟩)) (fun r_23 hr_23 => ?_)
        refine lv_if_ne (tgt := 31) hx hb dS_set_26 (by decide) (fun c_26 => ?_) (fun c_26 => ?_)
        · skip
          have hp9 : pSet A n q x y z := ⟨hr_2.t c_5, by simp only [Int32.lt_iff_toInt_lt, Int32.le_iff_toInt_le, nI, Int32.reduceOfNat, Int32.reduceToInt] at c_9 c_14 ⊢; omega, hr_23.t c_26⟩
          obtain ⟨j, hj, rfl⟩ := rng_lt hp9.1.1 hp9.1.2 (by omega)
          obtain ⟨u, hu, rfl⟩ := rng_le hp9.2.1.1 hp9.2.1.2 (by decide)
          refine lv_aload_n hx hb dS_set_31 rfl (lv_at hl 0 rfl) ?_
          refine bw_get (own := RS) (ci := 1) (C := RS) (T := TS) (N := 14) (v := .ref (ad 4)) hx hb hts inS hown hE hP 0 (by decide) rfl rfl 4 (by decide) w_92 rfl rfl dS_set_32 ?_
          refine lv_iload_n hx hb dS_set_35 rfl (lv_at hl 1 rfl) ?_
          refine ln_aald (L := 48) hx hb hE hP 4 2 (by decide) (rfl) rfl (by omega) (by decide) (a := ad (5 + j)) (by first | rfl | (show (if _ then _ else _) = _; rw [if_pos (by omega)])) dS_set_36 ?_
          refine lv_iload_n hx hb dS_set_37 rfl (lv_at hl 2 rfl) ?_
          refine lv_iload_n hx hb dS_set_38 rfl (lv_at hl 3 rfl) ?_
          refine lv_iload hx hb dS_set_39 (lv_at hl 4 rfl) ?_
          refine lv_iload hx hb dS_set_41 (lv_at hl 5 rfl) ?_
          refine bc_callv (bc_runS (own := RS) (As := [.ref (ad (5 + j)), .int (nI u), .int x, .int y, .int z]) (rest := []) hx hb (hml.trans hl.1.symm) hown hts (kS_put l D cs ad hI M s.heap.size (5 + j) u (by omega) (fun _ => sc_row5 (by omega)) (by omega) x y z) w_140 w_138 w_139 w_1 hd_S_put rfl ⟨rfl, rfl⟩ ⟨Nat.le_of_ble_eq_true rfl, Nat.le_of_ble_eq_true rfl⟩ (fun _ _ _ _ h => h.calling) (fun U hU hW => ⟨by rw [hU], by rw [hU]; exact hP, hE.warm hW⟩) rfl (Nat.le_of_ble_eq_true rfl) dS_set_43 ⟨Nat.le_of_ble_eq_true rfl, Nat.le_of_ble_eq_true rfl⟩) hS (fun M_1 H locs hr_43 hP hS => ?_)
          refine lv_aload_n hx hb dS_set_46 rfl (lv_at hl 0 rfl) ?_
          refine lv_iload_n hx hb dS_set_47 rfl (lv_at hl 1 rfl) ?_
          refine bc_callv (bc_runV (own := RS) (C := RS) (As := [.int (nI j)]) (rest := []) hx hb (hml.trans hl.1.symm) hown hts (kS_refreshLocal l D cs ad hI M_1 H.size j (by omega) (sTZ_keep hz (fun q h1 _ => by rw [hr_43, va_up_ne _ _ (by omega)]))) w_145 w_142 w_144 ws_sel_S_refreshLocal w_1 ⟨rfl, hd_S_refreshLocal⟩ rfl ⟨rfl, rfl⟩ ⟨Nat.le_of_ble_eq_true rfl, Nat.le_of_ble_eq_true rfl⟩ (fun _ _ _ _ h => h.calling) (bc_recv (r := (RS, TS, 14)) hE hP 0 (by decide) rfl rfl) (fun U hU hW => ⟨by rw [hU], by rw [hU]; exact hP, hE.warm hW⟩) rfl (Nat.le_of_ble_eq_true rfl) dS_set_48 ⟨Nat.le_of_ble_eq_true rfl, Nat.le_of_ble_eq_true rfl⟩) hS (fun M_2 H locs hr_48 hP hS => ?_)
          refine lv_aload_n hx hb dS_set_51 rfl (lv_at hl 0 rfl) ?_
          refine lv_aload_n hx hb dS_set_52 rfl (lv_at hl 0 rfl) ?_
          refine bw_get (own := RS) (ci := 1) (C := RS) (T := TS) (N := 14) (v := .int (M_2 0 7)) hx hb hts inS hown hE hP 0 (by decide) rfl rfl 7 (by decide) w_95 rfl rfl dS_set_53 ?_
          refine ln_asi (nI rr) (by rw [hr_48.1 0 (by decide) (by omega), hr_43, va_up_ne _ _ (by omega)]; exact hr7) ?_
          refine lv_iload_n hx hb dS_set_56 rfl (lv_at hl 1 rfl) ?_
          refine va_mmin (own := RS) (index := 84) hx hb (hml.trans hl.1.symm) hown (hts _ w_166) (hts _ w_167) (hts _ w_3) (hts _ w_168) (by decide) (Nat.le_of_ble_eq_true rfl) (by decide) (by decide) dS_set_57 ?_
          refine ln_asi (nI (min rr j)) (by exact nI_min (by omega) (by omega)) ?_
          refine bw_put (own := RS) (ci := 1) (C := RS) (T := TS) (N := 14) (v := .int (nI (min rr j))) (ty := .int) hx hb hts inS tyS tyS_ok nmS hown hE hI hP hS 0 (by decide) rfl rfl 7 (by decide) w_95 rfl rfl (upd (M_2 0) 7 (nI (min rr j))) rfl (by decide +kernel) rfl rfl (Nat.le_of_ble_eq_true rfl) dS_set_60 (fun M_3 H locs eM_3 hP hS => ?_)
          refine lv_iconst (v := nI 1) hx hb dS_set_63 (by decide) ?_
          exact W.zret (v := nI 1) (ty := .boolean) hx hb hr (by decide) (fun t ht hW => ⟨⟨_, M_3, rfl, Or.inl ⟨rfl, hp9, by rw [nI_clamp (by omega), nI_clamp (by omega)]; exact hC.set hj hrr hw hr_43 hr_48 eM_3⟩, by show va_P _ _ _ t.heap; rw [ht]; exact hP⟩, hS.F ht⟩) hS.2.2 dS_set_64
        · skip
          refine lv_iconst (v := nI 0) hx hb dS_set_29 (by decide) ?_
          exact W.zret (v := nI 0) (ty := .boolean) hx hb hr (by decide) (fun t ht hW => ⟨⟨_, M, rfl, Or.inr ⟨rfl, fun h9 => hr_23.f c_26 h9.2.2, hC⟩, by show va_P _ _ _ t.heap; rw [ht]; exact hP⟩, hS.F ht⟩) hS.2.2 dS_set_30

set_option maxHeartbeats 4000000 in
set_option maxRecDepth 100000 in
theorem kS_hang (l : Launch) (D : va_G) (cs : Nat → ClassId) (ad : Nat → Nat) (hI : bw_I ad 162) (M : Nat → Nat → Int32) (sz : Nat) (A : Ab) (hC : Cls A M) (n q : Int32)  : Met l yS_hang (wc yS_hang cS_hang 3 (some .boolean)) ({ frames := 1, cells := 0, slots := 0, locals := 21 } : Room) (va_Pc [.ref (ad 0), .int n, .int q] (sP D cs ad M sz)) (bQi D ad 162 (sc_cell cs ad) sz (fun r M1 => (r = nI 1 ∧ pHang A n q ∧ Cls (hangA A n.toNatClampNeg q) M1) ∨ (r = nI 0 ∧ ¬ pHang A n q ∧ Cls A M1))) 0 0 (bw_A ad 162 sz) := by
  refine Met.ofW (cc := cS_hang) (maxL := 3) (ret := (some .boolean)) (by decide +kernel) rfl ?_
  intro p e s m args below meth c s₁ B hml hv
  obtain ⟨rfl, hsz, hP, hE⟩ := hv
  subst hsz
  have hx := B.exec
  have hb := B.bytes
  have hr := B.returns
  have hts : ∀ w9 ∈ ws_all, w9.before ([.ref (ad 0), .int n, .int q] : List Value).toArray s = true := fun w9 h => atoms_spec (ws := (wc yS_hang cS_hang 3 (some .boolean))) B.pre w9 (List.mem_cons_of_mem _ h)
  have hown : s.vm.findClass RS = some m.cls := findClass_of_methodNamed B.named
  have hlocks := B.notSynchronized
  have hS : va_S (bw_A ad 162 s.heap.size) s.heap s.heap [] := va_S.rf
  have hl := lv_entry ([.ref (ad 0), .int n, .int q]) (n := 3) (Nat.le_of_ble_eq_true rfl)
  rw [lg_entry_eq]
  generalize (lg_sl ([.ref (ad 0), .int n, .int q]) ++ List.replicate (3 - (lg_sl ([.ref (ad 0), .int n, .int q])).length) Slot.unset).toArray = ls at hl ⊢
  have hl : lv_has ls 3 [(0, .ref (ad 0)), (1, .int n), (2, .int q)] := hl
  obtain ⟨hA, hn, hrow, heye, hview, hz, rr, hrr, hr7, hw⟩ := id hC
  have hN : aN A ≤ 48 := hA.1
  refine lv_aload_n hx hb dS_hang_0 rfl (lv_at hl 0 rfl) ?_
  refine lv_iload_n hx hb dS_hang_1 rfl (lv_at hl 1 rfl) ?_
  refine vp_callSi (va_Run.run (bc_runV (own := RS) (C := RS) (As := [.int n]) (rest := []) hx hb (hml.trans hl.1.symm) hown hts (kS_isNode l D cs ad hI M s.heap.size n) w_157 w_154 w_156 ws_sel_S_isNode w_1 ⟨rfl, hd_S_isNode⟩ rfl ⟨rfl, rfl⟩ ⟨Nat.le_of_ble_eq_true rfl, Nat.le_of_ble_eq_true rfl⟩ (fun _ _ _ _ h => h.calling) (bc_recv (r := (RS, TS, 14)) hE hP 0 (by decide) rfl rfl) (fun U hU hW => ⟨by rw [hU], by rw [hU]; exact hP, hE.warm hW⟩) rfl (Nat.le_of_ble_eq_true rfl) dS_hang_2 ⟨Nat.le_of_ble_eq_true rfl, Nat.le_of_ble_eq_true rfl⟩)) (fun r_2 hr_2 => ?_)
  rw [hn] at hr_2
  refine lv_if_eq (tgt := 16) hx hb dS_hang_5 (by decide) (fun c_5 => ?_) (fun c_5 => ?_)
  · skip
    refine lv_iconst (v := nI 0) hx hb dS_hang_16 (by decide) ?_
    exact W.zret (v := nI 0) (ty := .boolean) hx hb hr (by decide) (fun t ht hW => ⟨⟨_, M, rfl, Or.inr ⟨rfl, fun h9 => hr_2.f c_5 h9.1, hC⟩, by show va_P _ _ _ t.heap; rw [ht]; exact hP⟩, hS.F ht⟩) hS.2.2 dS_hang_17
  · skip
    refine lv_iload_n hx hb dS_hang_8 rfl (lv_at hl 1 rfl) ?_
    refine lv_iload_n hx hb dS_hang_9 rfl (lv_at hl 2 rfl) ?_
    refine vp_callSi (va_Run.run (bc_runS (own := RS) (As := [.int n, .int q]) (rest := []) hx hb (hml.trans hl.1.symm) hown hts (kS_isParentBefore l n q) w_137 w_135 w_136 w_1 hd_S_isParentBefore rfl ⟨rfl, rfl⟩ ⟨Nat.le_of_ble_eq_true rfl, Nat.le_of_ble_eq_true rfl⟩ (fun _ _ _ _ _ => trivial) (fun _ _ _ => trivial) rfl (Nat.le_of_ble_eq_true rfl) dS_hang_10 ⟨Nat.le_of_ble_eq_true rfl, Nat.le_of_ble_eq_true rfl⟩)) (fun r_10 hr_10 => ?_)
    refine lv_if_ne (tgt := 18) hx hb dS_hang_13 (by decide) (fun c_13 => ?_) (fun c_13 => ?_)
    · skip
      have hp9 : pHang A n q := ⟨hr_2.t c_5, hr_10.t c_13⟩
      obtain ⟨j, hj, rfl⟩ := rng_lt hp9.1.1 hp9.1.2 (by omega)
      refine lv_aload_n hx hb dS_hang_18 rfl (lv_at hl 0 rfl) ?_
      refine bw_get (own := RS) (ci := 1) (C := RS) (T := TS) (N := 14) (v := .ref (ad 1)) hx hb hts inS hown hE hP 0 (by decide) rfl rfl 1 (by decide) w_89 rfl rfl dS_hang_19 ?_
      refine lv_iload_n hx hb dS_hang_22 rfl (lv_at hl 1 rfl) ?_
      refine lv_iload_n hx hb dS_hang_23 rfl (lv_at hl 2 rfl) ?_
      refine ln_iast (L := 48) hx hb hE hI hP hS 1 0 (by decide) (rfl) rfl (by omega) (by decide) (upd (M 1) j q) (rfl) dS_hang_24 (fun M_1 H locs eM_1 hP hS => ?_)
      refine lv_aload_n hx hb dS_hang_25 rfl (lv_at hl 0 rfl) ?_
      refine lv_aload_n hx hb dS_hang_26 rfl (lv_at hl 0 rfl) ?_
      refine bw_get (own := RS) (ci := 1) (C := RS) (T := TS) (N := 14) (v := .int (M_1 0 7)) hx hb hts inS hown hE hP 0 (by decide) rfl rfl 7 (by decide) w_95 rfl rfl dS_hang_27 ?_
      refine ln_asi (nI rr) (by rw [eM_1, va_up_ne _ _ (by decide)]; exact hr7) ?_
      refine lv_iload_n hx hb dS_hang_30 rfl (lv_at hl 1 rfl) ?_
      refine va_mmin (own := RS) (index := 84) hx hb (hml.trans hl.1.symm) hown (hts _ w_166) (hts _ w_167) (hts _ w_3) (hts _ w_168) (by decide) (Nat.le_of_ble_eq_true rfl) (by decide) (by decide) dS_hang_31 ?_
      refine ln_asi (nI (min rr j)) (by exact nI_min (by omega) (by omega)) ?_
      refine bw_put (own := RS) (ci := 1) (C := RS) (T := TS) (N := 14) (v := .int (nI (min rr j))) (ty := .int) hx hb hts inS tyS tyS_ok nmS hown hE hI hP hS 0 (by decide) rfl rfl 7 (by decide) w_95 rfl rfl (upd (M_1 0) 7 (nI (min rr j))) rfl (by decide +kernel) rfl rfl (Nat.le_of_ble_eq_true rfl) dS_hang_34 (fun M_2 H locs eM_2 hP hS => ?_)
      refine lv_iconst (v := nI 1) hx hb dS_hang_37 (by decide) ?_
      exact W.zret (v := nI 1) (ty := .boolean) hx hb hr (by decide) (fun t ht hW => ⟨⟨_, M_2, rfl, Or.inl ⟨rfl, hp9, by rw [nI_clamp (by omega)]; exact hC.hang hj hp9.2 hrr hw eM_1 eM_2⟩, by show va_P _ _ _ t.heap; rw [ht]; exact hP⟩, hS.F ht⟩) hS.2.2 dS_hang_38
    · skip
      refine lv_iconst (v := nI 0) hx hb dS_hang_16 (by decide) ?_
      exact W.zret (v := nI 0) (ty := .boolean) hx hb hr (by decide) (fun t ht hW => ⟨⟨_, M, rfl, Or.inr ⟨rfl, fun h9 => hr_10.f c_13 h9.2, hC⟩, by show va_P _ _ _ t.heap; rw [ht]; exact hP⟩, hS.F ht⟩) hS.2.2 dS_hang_17

set_option maxHeartbeats 4000000 in
set_option maxRecDepth 100000 in
theorem kS_hide (l : Launch) (D : va_G) (cs : Nat → ClassId) (ad : Nat → Nat) (hI : bw_I ad 162) (M : Nat → Nat → Int32) (sz : Nat) (A : Ab) (hC : Cls A M) (n b : Int32)  : Met l yS_hide (wc yS_hide cS_hide 3 (some .boolean)) ({ frames := 1, cells := 0, slots := 0, locals := 21 } : Room) (va_Pc [.ref (ad 0), .int n, .int b] (sP D cs ad M sz)) (bQi D ad 162 (sc_cell cs ad) sz (fun r M1 => (r = nI 1 ∧ pNode A n ∧ Cls (hideA A n.toNatClampNeg b) M1) ∨ (r = nI 0 ∧ ¬ pNode A n ∧ Cls A M1))) 0 0 (bw_A ad 162 sz) := by
  refine Met.ofW (cc := cS_hide) (maxL := 3) (ret := (some .boolean)) (by decide +kernel) rfl ?_
  intro p e s m args below meth c s₁ B hml hv
  obtain ⟨rfl, hsz, hP, hE⟩ := hv
  subst hsz
  have hx := B.exec
  have hb := B.bytes
  have hr := B.returns
  have hts : ∀ w9 ∈ ws_all, w9.before ([.ref (ad 0), .int n, .int b] : List Value).toArray s = true := fun w9 h => atoms_spec (ws := (wc yS_hide cS_hide 3 (some .boolean))) B.pre w9 (List.mem_cons_of_mem _ h)
  have hown : s.vm.findClass RS = some m.cls := findClass_of_methodNamed B.named
  have hlocks := B.notSynchronized
  have hS : va_S (bw_A ad 162 s.heap.size) s.heap s.heap [] := va_S.rf
  have hl := lv_entry ([.ref (ad 0), .int n, .int b]) (n := 3) (Nat.le_of_ble_eq_true rfl)
  rw [lg_entry_eq]
  generalize (lg_sl ([.ref (ad 0), .int n, .int b]) ++ List.replicate (3 - (lg_sl ([.ref (ad 0), .int n, .int b])).length) Slot.unset).toArray = ls at hl ⊢
  have hl : lv_has ls 3 [(0, .ref (ad 0)), (1, .int n), (2, .int b)] := hl
  obtain ⟨hA, hn, hrow, heye, hview, hz, rr, hrr, hr7, hw⟩ := id hC
  have hN : aN A ≤ 48 := hA.1
  refine lv_aload_n hx hb dS_hide_0 rfl (lv_at hl 0 rfl) ?_
  refine lv_iload_n hx hb dS_hide_1 rfl (lv_at hl 1 rfl) ?_
  refine vp_callSi (va_Run.run (bc_runV (own := RS) (C := RS) (As := [.int n]) (rest := []) hx hb (hml.trans hl.1.symm) hown hts (kS_isNode l D cs ad hI M s.heap.size n) w_157 w_154 w_156 ws_sel_S_isNode w_1 ⟨rfl, hd_S_isNode⟩ rfl ⟨rfl, rfl⟩ ⟨Nat.le_of_ble_eq_true rfl, Nat.le_of_ble_eq_true rfl⟩ (fun _ _ _ _ h => h.calling) (bc_recv (r := (RS, TS, 14)) hE hP 0 (by decide) rfl rfl) (fun U hU hW => ⟨by rw [hU], by rw [hU]; exact hP, hE.warm hW⟩) rfl (Nat.le_of_ble_eq_true rfl) dS_hide_2 ⟨Nat.le_of_ble_eq_true rfl, Nat.le_of_ble_eq_true rfl⟩)) (fun r_2 hr_2 => ?_)
  rw [hn] at hr_2
  refine lv_if_ne (tgt := 10) hx hb dS_hide_5 (by decide) (fun c_5 => ?_) (fun c_5 => ?_)
  · skip
    have hp9 : pNode A n := hr_2.t c_5
    obtain ⟨j, hj, rfl⟩ := rng_lt hp9.1 hp9.2 (by omega)
    refine lv_aload_n hx hb dS_hide_10 rfl (lv_at hl 0 rfl) ?_
    refine bw_get (own := RS) (ci := 1) (C := RS) (T := TS) (N := 14) (v := .ref (ad 3)) hx hb hts inS hown hE hP 0 (by decide) rfl rfl 3 (by decide) w_91 rfl rfl dS_hide_11 ?_
    refine lv_iload_n hx hb dS_hide_14 rfl (lv_at hl 1 rfl) ?_
    refine lv_iload_n hx hb dS_hide_15 rfl (lv_at hl 2 rfl) ?_
    refine ln_zast (L := 48) hx hb hE hI hP hS 3 1 (by decide) (rfl) rfl (by omega) (by decide) (upd (M 3) j (vp_nar .boolean b)) (rfl) dS_hide_16 (fun M_1 H locs eM_1 hP hS => ?_)
    refine lv_iconst (v := nI 1) hx hb dS_hide_17 (by decide) ?_
    exact W.zret (v := nI 1) (ty := .boolean) hx hb hr (by decide) (fun t ht hW => ⟨⟨_, M_1, rfl, Or.inl ⟨rfl, hp9, by rw [nI_clamp (by omega)]; exact hC.hide hj eM_1⟩, by show va_P _ _ _ t.heap; rw [ht]; exact hP⟩, hS.F ht⟩) hS.2.2 dS_hide_18
  · skip
    refine lv_iconst (v := nI 0) hx hb dS_hide_8 (by decide) ?_
    exact W.zret (v := nI 0) (ty := .boolean) hx hb hr (by decide) (fun t ht hW => ⟨⟨_, M, rfl, Or.inr ⟨rfl, hr_2.f c_5, hC⟩, by show va_P _ _ _ t.heap; rw [ht]; exact hP⟩, hS.F ht⟩) hS.2.2 dS_hide_9

set_option maxHeartbeats 4000000 in
set_option maxRecDepth 100000 in
theorem kS_camera (l : Launch) (D : va_G) (cs : Nat → ClassId) (ad : Nat → Nat) (hI : bw_I ad 162) (M : Nat → Nat → Int32) (sz : Nat) (A : Ab) (hC : Cls A M) (q x y z : Int32)  : Met l yS_camera (wc yS_camera cS_camera 5 (some .boolean)) ({ frames := 6, cells := 0, slots := 0, locals := 135 } : Room) (va_Pc [.ref (ad 0), .int q, .int x, .int y, .int z] (sP D cs ad M sz)) (bQi D ad 162 (sc_cell cs ad) sz (fun r M1 => (r = nI 1 ∧ pCam q x y z ∧ Cls (camA A q.toNatClampNeg x y z) M1) ∨ (r = nI 0 ∧ ¬ pCam q x y z ∧ Cls A M1))) 0 0 (bw_A ad 162 sz) := by
  refine Met.ofW (cc := cS_camera) (maxL := 5) (ret := (some .boolean)) (by decide +kernel) rfl ?_
  intro p e s m args below meth c s₁ B hml hv
  obtain ⟨rfl, hsz, hP, hE⟩ := hv
  subst hsz
  have hx := B.exec
  have hb := B.bytes
  have hr := B.returns
  have hts : ∀ w9 ∈ ws_all, w9.before ([.ref (ad 0), .int q, .int x, .int y, .int z] : List Value).toArray s = true := fun w9 h => atoms_spec (ws := (wc yS_camera cS_camera 5 (some .boolean))) B.pre w9 (List.mem_cons_of_mem _ h)
  have hown : s.vm.findClass RS = some m.cls := findClass_of_methodNamed B.named
  have hlocks := B.notSynchronized
  have hS : va_S (bw_A ad 162 s.heap.size) s.heap s.heap [] := va_S.rf
  have hl := lv_entry ([.ref (ad 0), .int q, .int x, .int y, .int z]) (n := 5) (Nat.le_of_ble_eq_true rfl)
  rw [lg_entry_eq]
  generalize (lg_sl ([.ref (ad 0), .int q, .int x, .int y, .int z]) ++ List.replicate (5 - (lg_sl ([.ref (ad 0), .int q, .int x, .int y, .int z])).length) Slot.unset).toArray = ls at hl ⊢
  have hl : lv_has ls 5 [(0, .ref (ad 0)), (1, .int q), (2, .int x), (3, .int y), (4, .int z)] := hl
  obtain ⟨hA, hn, hrow, heye, hview, hz, rr, hrr, hr7, hw⟩ := id hC
  have hN : aN A ≤ 48 := hA.1
  refine lv_iload_n hx hb dS_camera_0 rfl (lv_at hl 1 rfl) ?_
  refine lv_if_lt (tgt := 20) hx hb dS_camera_1 (by decide) (fun c_1 => ?_) (fun c_1 => ?_)
  · skip
    refine lv_iconst (v := nI 0) hx hb dS_camera_20 (by decide) ?_
    exact W.zret (v := nI 0) (ty := .boolean) hx hb hr (by decide) (fun t ht hW => ⟨⟨_, M, rfl, Or.inr ⟨rfl, fun h9 => by have := h9.1.1; simp only [Int32.lt_iff_toInt_lt, Int32.le_iff_toInt_le, nI, Int32.reduceOfNat, Int32.reduceToInt] at c_1 this; omega, hC⟩, by show va_P _ _ _ t.heap; rw [ht]; exact hP⟩, hS.F ht⟩) hS.2.2 dS_camera_21
  · skip
    refine lv_iload_n hx hb dS_camera_4 rfl (lv_at hl 1 rfl) ?_
    refine lv_iconst (v := nI 1) hx hb dS_camera_5 (by decide) ?_
    refine lv_icmp_gt (tgt := 20) hx hb dS_camera_6 (by decide) (fun c_6 => ?_) (fun c_6 => ?_)
    · skip
      refine lv_iconst (v := nI 0) hx hb dS_camera_20 (by decide) ?_
      exact W.zret (v := nI 0) (ty := .boolean) hx hb hr (by decide) (fun t ht hW => ⟨⟨_, M, rfl, Or.inr ⟨rfl, fun h9 => by have := h9.1.2; simp only [Int32.lt_iff_toInt_lt, Int32.le_iff_toInt_le, nI, Int32.reduceOfNat, Int32.reduceToInt] at c_6 this; omega, hC⟩, by show va_P _ _ _ t.heap; rw [ht]; exact hP⟩, hS.F ht⟩) hS.2.2 dS_camera_21
    · skip
      refine lv_iload_n hx hb dS_camera_9 rfl (lv_at hl 1 rfl) ?_
      refine lv_iload_n hx hb dS_camera_10 rfl (lv_at hl 2 rfl) ?_
      refine lv_iload_n hx hb dS_camera_11 rfl (lv_at hl 3 rfl) ?_
      refine lv_iload hx hb dS_camera_12 (lv_at hl 4 rfl) ?_
      refine vp_callSi (va_Run.run (bc_runS (own := RS) (As := [.int q, .int x, .int y, .int z]) (rest := []) hx hb (hml.trans hl.1.symm) hown hts (kS_canBe l q x y z) w_160 w_158 w_159 w_1 hd_S_canBe rfl ⟨rfl, rfl⟩ ⟨Nat.le_of_ble_eq_true rfl, Nat.le_of_ble_eq_true rfl⟩ (fun _ _ _ _ _ => trivial) (fun _ _ _ => trivial) rfl (Nat.le_of_ble_eq_true rfl) dS_camera_14 ⟨Nat.le_of_ble_eq_true rfl, Nat.le_of_ble_eq_true rfl⟩)) (fun r_14 hr_14 => ?_)
      refine lv_if_ne (tgt := 22) hx hb dS_camera_17 (by decide) (fun c_17 => ?_) (fun c_17 => ?_)
      · skip
        have hp9 : pCam q x y z := ⟨by simp only [Int32.lt_iff_toInt_lt, Int32.le_iff_toInt_le, nI, Int32.reduceOfNat, Int32.reduceToInt] at c_1 c_6 ⊢; omega, hr_14.t c_17⟩
        obtain ⟨u, hu, rfl⟩ := rng_le hp9.1.1 hp9.1.2 (by decide)
        refine lv_aload_n hx hb dS_camera_22 rfl (lv_at hl 0 rfl) ?_
        refine bw_get (own := RS) (ci := 1) (C := RS) (T := TS) (N := 14) (v := .ref (ad 151)) hx hb hts inS hown hE hP 0 (by decide) rfl rfl 8 (by decide) w_96 rfl rfl dS_camera_23 ?_
        refine lv_iload_n hx hb dS_camera_26 rfl (lv_at hl 1 rfl) ?_
        refine lv_iload_n hx hb dS_camera_27 rfl (lv_at hl 2 rfl) ?_
        refine lv_iload_n hx hb dS_camera_28 rfl (lv_at hl 3 rfl) ?_
        refine lv_iload hx hb dS_camera_29 (lv_at hl 4 rfl) ?_
        refine bc_callv (bc_runS (own := RS) (As := [.ref (ad 151), .int (nI u), .int x, .int y, .int z]) (rest := []) hx hb (hml.trans hl.1.symm) hown hts (kS_put l D cs ad hI M s.heap.size 151 u (by decide) (fun _ => rfl) (by omega) x y z) w_140 w_138 w_139 w_1 hd_S_put rfl ⟨rfl, rfl⟩ ⟨Nat.le_of_ble_eq_true rfl, Nat.le_of_ble_eq_true rfl⟩ (fun _ _ _ _ h => h.calling) (fun U hU hW => ⟨by rw [hU], by rw [hU]; exact hP, hE.warm hW⟩) rfl (Nat.le_of_ble_eq_true rfl) dS_camera_31 ⟨Nat.le_of_ble_eq_true rfl, Nat.le_of_ble_eq_true rfl⟩) hS (fun M_1 H locs hr_31 hP hS => ?_)
        refine lv_aload_n hx hb dS_camera_34 rfl (lv_at hl 0 rfl) ?_
        refine bc_callv (bc_runV (own := RS) (C := RS) (As := []) (rest := []) hx hb (hml.trans hl.1.symm) hown hts (kS_refreshView l D cs ad hI M_1 H.size (sTZ_keep hz (fun q h1 _ => by rw [hr_31, va_up_ne _ _ (by omega)]))) w_47 w_44 w_46 ws_sel_S_refreshView w_1 ⟨rfl, hd_S_refreshView⟩ rfl ⟨rfl, rfl⟩ ⟨Nat.le_of_ble_eq_true rfl, Nat.le_of_ble_eq_true rfl⟩ (fun _ _ _ _ h => h.calling) (bc_recv (r := (RS, TS, 14)) hE hP 0 (by decide) rfl rfl) (fun U hU hW => ⟨by rw [hU], by rw [hU]; exact hP, hE.warm hW⟩) rfl (Nat.le_of_ble_eq_true rfl) dS_camera_35 ⟨Nat.le_of_ble_eq_true rfl, Nat.le_of_ble_eq_true rfl⟩) hS (fun M_2 H locs hr_35 hP hS => ?_)
        refine lv_iconst (v := nI 1) hx hb dS_camera_38 (by decide) ?_
        exact W.zret (v := nI 1) (ty := .boolean) hx hb hr (by decide) (fun t ht hW => ⟨⟨_, M_2, rfl, Or.inl ⟨rfl, hp9, by rw [nI_clamp (by omega)]; exact hC.cam hr_31 hr_35⟩, by show va_P _ _ _ t.heap; rw [ht]; exact hP⟩, hS.F ht⟩) hS.2.2 dS_camera_39
      · skip
        refine lv_iconst (v := nI 0) hx hb dS_camera_20 (by decide) ?_
        exact W.zret (v := nI 0) (ty := .boolean) hx hb hr (by decide) (fun t ht hW => ⟨⟨_, M, rfl, Or.inr ⟨rfl, fun h9 => hr_14.f c_17 h9.2, hC⟩, by show va_P _ _ _ t.heap; rw [ht]; exact hP⟩, hS.F ht⟩) hS.2.2 dS_camera_21

set_option maxHeartbeats 4000000 in
set_option maxRecDepth 100000 in
theorem kS_add (l : Launch) (D : va_G) (cs : Nat → ClassId) (ad : Nat → Nat) (hI : bw_I ad 162) (M : Nat → Nat → Int32) (sz : Nat) (A : Ab) (hC : Cls A M) (q k : Int32)  : Met l yS_add (wc yS_add cS_add 4 (some .int)) ({ frames := 6, cells := 0, slots := 0, locals := 136 } : Room) (va_Pc [.ref (ad 0), .int q, .int k] (sP D cs ad M sz)) (bQi D ad 162 (sc_cell cs ad) sz (fun r M1 => (r = nI (aN A) ∧ pAdd A q k ∧ Cls (addA A q k) M1) ∨ (r = (-1) ∧ ¬ pAdd A q k ∧ Cls A M1))) 0 0 (bw_A ad 162 sz) := by
  refine Met.ofW (cc := cS_add) (maxL := 4) (ret := (some .int)) (by decide +kernel) rfl ?_
  intro p e s m args below meth c s₁ B hml hv
  obtain ⟨rfl, hsz, hP, hE⟩ := hv
  subst hsz
  have hx := B.exec
  have hb := B.bytes
  have hr := B.returns
  have hts : ∀ w9 ∈ ws_all, w9.before ([.ref (ad 0), .int q, .int k] : List Value).toArray s = true := fun w9 h => atoms_spec (ws := (wc yS_add cS_add 4 (some .int))) B.pre w9 (List.mem_cons_of_mem _ h)
  have hown : s.vm.findClass RS = some m.cls := findClass_of_methodNamed B.named
  have hlocks := B.notSynchronized
  have hS : va_S (bw_A ad 162 s.heap.size) s.heap s.heap [] := va_S.rf
  have hl := lv_entry ([.ref (ad 0), .int q, .int k]) (n := 4) (Nat.le_of_ble_eq_true rfl)
  rw [lg_entry_eq]
  generalize (lg_sl ([.ref (ad 0), .int q, .int k]) ++ List.replicate (4 - (lg_sl ([.ref (ad 0), .int q, .int k])).length) Slot.unset).toArray = ls at hl ⊢
  have hl : lv_has ls 4 [(0, .ref (ad 0)), (1, .int q), (2, .int k)] := hl
  obtain ⟨hA, hn, hrow, heye, hview, hz, rr, hrr, hr7, hw⟩ := id hC
  have hN : aN A ≤ 48 := hA.1
  refine lv_aload_n hx hb dS_add_0 rfl (lv_at hl 0 rfl) ?_
  refine bw_get (own := RS) (ci := 1) (C := RS) (T := TS) (N := 14) (v := .int (M 0 0)) hx hb hts inS hown hE hP 0 (by decide) rfl rfl 0 (by decide) w_88 rfl rfl dS_add_1 ?_
  refine ln_asi (nI (aN A)) (by exact hn) ?_
  refine lv_bipush (v := nI 48) hx hb dS_add_4 (by decide) ?_
  refine ln_icmp_ge (tgt := 29) hx hb dS_add_6 (by decide) (by omega) (by omega) (fun c_6 => ?_) (fun c_6 => ?_)
  · skip
    refine lv_iconst (v := (-1)) hx hb dS_add_29 (by decide) ?_
    exact W.iret (v := (-1)) hx hb hr (fun t ht hW => ⟨⟨_, M, rfl, Or.inr ⟨rfl, fun h9 => by have := h9.1; omega, hC⟩, by show va_P _ _ _ t.heap; rw [ht]; exact hP⟩, hS.F ht⟩) hS.2.2 dS_add_30
  · skip
    refine lv_aload_n hx hb dS_add_9 rfl (lv_at hl 0 rfl) ?_
    refine bw_get (own := RS) (ci := 1) (C := RS) (T := TS) (N := 14) (v := .int (M 0 0)) hx hb hts inS hown hE hP 0 (by decide) rfl rfl 0 (by decide) w_88 rfl rfl dS_add_10 ?_
    refine ln_asi (nI (aN A)) (by exact hn) ?_
    refine lv_iload_n hx hb dS_add_13 rfl (lv_at hl 1 rfl) ?_
    refine vp_callSi (va_Run.run (bc_runS (own := RS) (As := [.int (nI (aN A)), .int q]) (rest := []) hx hb (hml.trans hl.1.symm) hown hts (kS_isParentBefore l (nI (aN A)) q) w_137 w_135 w_136 w_1 hd_S_isParentBefore rfl ⟨rfl, rfl⟩ ⟨Nat.le_of_ble_eq_true rfl, Nat.le_of_ble_eq_true rfl⟩ (fun _ _ _ _ _ => trivial) (fun _ _ _ => trivial) rfl (Nat.le_of_ble_eq_true rfl) dS_add_14 ⟨Nat.le_of_ble_eq_true rfl, Nat.le_of_ble_eq_true rfl⟩)) (fun r_14 hr_14 => ?_)
    refine lv_if_eq (tgt := 29) hx hb dS_add_17 (by decide) (fun c_17 => ?_) (fun c_17 => ?_)
    · skip
      refine lv_iconst (v := (-1)) hx hb dS_add_29 (by decide) ?_
      exact W.iret (v := (-1)) hx hb hr (fun t ht hW => ⟨⟨_, M, rfl, Or.inr ⟨rfl, fun h9 => hr_14.f c_17 h9.2.1, hC⟩, by show va_P _ _ _ t.heap; rw [ht]; exact hP⟩, hS.F ht⟩) hS.2.2 dS_add_30
    · skip
      refine lv_iload_n hx hb dS_add_20 rfl (lv_at hl 2 rfl) ?_
      refine lv_if_lt (tgt := 29) hx hb dS_add_21 (by decide) (fun c_21 => ?_) (fun c_21 => ?_)
      · skip
        refine lv_iconst (v := (-1)) hx hb dS_add_29 (by decide) ?_
        exact W.iret (v := (-1)) hx hb hr (fun t ht hW => ⟨⟨_, M, rfl, Or.inr ⟨rfl, fun h9 => by have := h9.2.2.1; simp only [Int32.lt_iff_toInt_lt, Int32.le_iff_toInt_le, nI, Int32.reduceOfNat, Int32.reduceToInt] at c_21 this; omega, hC⟩, by show va_P _ _ _ t.heap; rw [ht]; exact hP⟩, hS.F ht⟩) hS.2.2 dS_add_30
      · skip
        refine lv_iload_n hx hb dS_add_24 rfl (lv_at hl 2 rfl) ?_
        refine lv_iconst (v := nI 2) hx hb dS_add_25 (by decide) ?_
        refine lv_icmp_le (tgt := 31) hx hb dS_add_26 (by decide) (fun c_26 => ?_) (fun c_26 => ?_)
        · skip
          have hk9 : 0 ≤ k ∧ k ≤ nI 2 := by simp only [Int32.lt_iff_toInt_lt, Int32.le_iff_toInt_le, nI, Int32.reduceOfNat, Int32.reduceToInt] at c_21 c_26 ⊢; omega
          refine lv_aload_n hx hb dS_add_31 rfl (lv_at hl 0 rfl) ?_
          refine bw_get (own := RS) (ci := 1) (C := RS) (T := TS) (N := 14) (v := .int (M 0 0)) hx hb hts inS hown hE hP 0 (by decide) rfl rfl 0 (by decide) w_88 rfl rfl dS_add_32 ?_
          refine ln_asi (nI (aN A)) (by exact hn) ?_
          refine lv_istore_n (lv' := [(3, .int (nI (aN A))), (0, .ref (ad 0)), (1, .int q), (2, .int k)]) hx hb dS_add_35 rfl hl (by decide) rfl (fun ls hl => ?_)
          refine lv_aload_n hx hb dS_add_36 rfl (lv_at hl 1 rfl) ?_
          refine lv_dup hx hb dS_add_37 rfl ?_
          refine bw_get (own := RS) (ci := 1) (C := RS) (T := TS) (N := 14) (v := .int (M 0 0)) hx hb hts inS hown hE hP 0 (by decide) rfl rfl 0 (by decide) w_88 rfl rfl dS_add_38 ?_
          refine ln_asi (nI (aN A)) (by exact hn) ?_
          refine lv_iconst (v := nI 1) hx hb dS_add_41 (by decide) ?_
          refine ln_iadd hx hb dS_add_42 ?_
          refine bw_put (own := RS) (ci := 1) (C := RS) (T := TS) (N := 14) (v := .int (nI ((aN A) + 1))) (ty := .int) hx hb hts inS tyS tyS_ok nmS hown hE hI hP hS 0 (by decide) rfl rfl 0 (by decide) w_88 rfl rfl (upd (M 0) 0 (nI ((aN A) + 1))) rfl (by decide +kernel) rfl rfl (Nat.le_of_ble_eq_true rfl) dS_add_43 (fun M_1 H locs eM_1 hP hS => ?_)
          refine lv_aload_n hx hb dS_add_46 rfl (lv_at hl 1 rfl) ?_
          refine bw_get (own := RS) (ci := 1) (C := RS) (T := TS) (N := 14) (v := .ref (ad 1)) hx hb hts inS hown hE hP 0 (by decide) rfl rfl 1 (by decide) w_89 rfl rfl dS_add_47 ?_
          refine lv_iload_n hx hb dS_add_50 rfl (lv_at hl 0 rfl) ?_
          refine lv_iload_n hx hb dS_add_51 rfl (lv_at hl 2 rfl) ?_
          refine ln_iast (L := 48) hx hb hE hI hP hS 1 0 (by decide) (rfl) rfl (by omega) (by decide) (upd (M_1 1) (aN A) q) (rfl) dS_add_52 (fun M_2 H locs eM_2 hP hS => ?_)
          refine lv_aload_n hx hb dS_add_53 rfl (lv_at hl 1 rfl) ?_
          refine bw_get (own := RS) (ci := 1) (C := RS) (T := TS) (N := 14) (v := .ref (ad 2)) hx hb hts inS hown hE hP 0 (by decide) rfl rfl 2 (by decide) w_90 rfl rfl dS_add_54 ?_
          refine lv_iload_n hx hb dS_add_57 rfl (lv_at hl 0 rfl) ?_
          refine lv_iload_n hx hb dS_add_58 rfl (lv_at hl 3 rfl) ?_
          refine ln_iast (L := 48) hx hb hE hI hP hS 2 0 (by decide) (rfl) rfl (by omega) (by decide) (upd (M_2 2) (aN A) k) (rfl) dS_add_59 (fun M_3 H locs eM_3 hP hS => ?_)
          refine lv_aload_n hx hb dS_add_60 rfl (lv_at hl 1 rfl) ?_
          refine bw_get (own := RS) (ci := 1) (C := RS) (T := TS) (N := 14) (v := .ref (ad 3)) hx hb hts inS hown hE hP 0 (by decide) rfl rfl 3 (by decide) w_91 rfl rfl dS_add_61 ?_
          refine lv_iload_n hx hb dS_add_64 rfl (lv_at hl 0 rfl) ?_
          refine lv_iconst (v := nI 0) hx hb dS_add_65 (by decide) ?_
          refine ln_zast (L := 48) hx hb hE hI hP hS 3 1 (by decide) (rfl) rfl (by omega) (by decide) (upd (M_3 3) (aN A) (vp_nar .boolean (nI 0))) (rfl) dS_add_66 (fun M_4 H locs eM_4 hP hS => ?_)
          refine lv_aload_n hx hb dS_add_67 rfl (lv_at hl 1 rfl) ?_
          refine bw_get (own := RS) (ci := 1) (C := RS) (T := TS) (N := 14) (v := .ref (ad 4)) hx hb hts inS hown hE hP 0 (by decide) rfl rfl 4 (by decide) w_92 rfl rfl dS_add_68 ?_
          refine lv_iload_n hx hb dS_add_71 rfl (lv_at hl 0 rfl) ?_
          refine ln_aald (L := 48) hx hb hE hP 4 2 (by decide) (rfl) rfl (by omega) (by decide) (a := ad (5 + (aN A))) (by first | rfl | (show (if _ then _ else _) = _; rw [if_pos (by omega)])) dS_add_72 ?_
          refine lv_iconst (v := nI 0) hx hb dS_add_73 (by decide) ?_
          refine lv_iconst (v := nI 0) hx hb dS_add_74 (by decide) ?_
          refine lv_iconst (v := nI 0) hx hb dS_add_75 (by decide) ?_
          refine lv_iconst (v := nI 0) hx hb dS_add_76 (by decide) ?_
          refine bc_callv (bc_runS (own := RS) (As := [.ref (ad (5 + (aN A))), .int (nI 0), .int (nI 0), .int (nI 0), .int (nI 0)]) (rest := []) hx hb (hml.trans hl.1.symm) hown hts (kS_put l D cs ad hI M_4 H.size (5 + aN A) 0 (by omega) (fun _ => sc_row5 (by omega)) (by decide) (nI 0) (nI 0) (nI 0)) w_140 w_138 w_139 w_1 hd_S_put rfl ⟨rfl, rfl⟩ ⟨Nat.le_of_ble_eq_true rfl, Nat.le_of_ble_eq_true rfl⟩ (fun _ _ _ _ h => h.calling) (fun U hU hW => ⟨by rw [hU], by rw [hU]; exact hP, hE.warm hW⟩) rfl (Nat.le_of_ble_eq_true rfl) dS_add_77 ⟨Nat.le_of_ble_eq_true rfl, Nat.le_of_ble_eq_true rfl⟩) hS (fun M_5 H locs hr_77 hP hS => ?_)
          refine lv_aload_n hx hb dS_add_80 rfl (lv_at hl 1 rfl) ?_
          refine bw_get (own := RS) (ci := 1) (C := RS) (T := TS) (N := 14) (v := .ref (ad 4)) hx hb hts inS hown hE hP 0 (by decide) rfl rfl 4 (by decide) w_92 rfl rfl dS_add_81 ?_
          refine lv_iload_n hx hb dS_add_84 rfl (lv_at hl 0 rfl) ?_
          refine ln_aald (L := 48) hx hb hE hP 4 2 (by decide) (rfl) rfl (by omega) (by decide) (a := ad (5 + (aN A))) (by first | rfl | (show (if _ then _ else _) = _; rw [if_pos (by omega)])) dS_add_85 ?_
          refine lv_iconst (v := nI 1) hx hb dS_add_86 (by decide) ?_
          refine lv_iconst (v := nI 0) hx hb dS_add_87 (by decide) ?_
          refine lv_iconst (v := nI 0) hx hb dS_add_88 (by decide) ?_
          refine lv_iconst (v := nI 0) hx hb dS_add_89 (by decide) ?_
          refine bc_callv (bc_runS (own := RS) (As := [.ref (ad (5 + (aN A))), .int (nI 1), .int (nI 0), .int (nI 0), .int (nI 0)]) (rest := []) hx hb (hml.trans hl.1.symm) hown hts (kS_put l D cs ad hI M_5 H.size (5 + aN A) 1 (by omega) (fun _ => sc_row5 (by omega)) (by decide) (nI 0) (nI 0) (nI 0)) w_140 w_138 w_139 w_1 hd_S_put rfl ⟨rfl, rfl⟩ ⟨Nat.le_of_ble_eq_true rfl, Nat.le_of_ble_eq_true rfl⟩ (fun _ _ _ _ h => h.calling) (fun U hU hW => ⟨by rw [hU], by rw [hU]; exact hP, hE.warm hW⟩) rfl (Nat.le_of_ble_eq_true rfl) dS_add_90 ⟨Nat.le_of_ble_eq_true rfl, Nat.le_of_ble_eq_true rfl⟩) hS (fun M_6 H locs hr_90 hP hS => ?_)
          refine lv_aload_n hx hb dS_add_93 rfl (lv_at hl 1 rfl) ?_
          refine bw_get (own := RS) (ci := 1) (C := RS) (T := TS) (N := 14) (v := .ref (ad 4)) hx hb hts inS hown hE hP 0 (by decide) rfl rfl 4 (by decide) w_92 rfl rfl dS_add_94 ?_
          refine lv_iload_n hx hb dS_add_97 rfl (lv_at hl 0 rfl) ?_
          refine ln_aald (L := 48) hx hb hE hP 4 2 (by decide) (rfl) rfl (by omega) (by decide) (a := ad (5 + (aN A))) (by first | rfl | (show (if _ then _ else _) = _; rw [if_pos (by omega)])) dS_add_98 ?_
          refine lv_iconst (v := nI 2) hx hb dS_add_99 (by decide) ?_
          refine lv_ldc (own := RS) (index := 71) (v := 65536) hx hb hown (hts _ w_141) dS_add_100 ?_
          refine lv_ldc (own := RS) (index := 71) (v := 65536) hx hb hown (hts _ w_141) dS_add_102 ?_
          refine lv_ldc (own := RS) (index := 71) (v := 65536) hx hb hown (hts _ w_141) dS_add_104 ?_
          refine bc_callv (bc_runS (own := RS) (As := [.ref (ad (5 + (aN A))), .int (nI 2), .int 65536, .int 65536, .int 65536]) (rest := []) hx hb (hml.trans hl.1.symm) hown hts (kS_put l D cs ad hI M_6 H.size (5 + aN A) 2 (by omega) (fun _ => sc_row5 (by omega)) (by decide) 65536 65536 65536) w_140 w_138 w_139 w_1 hd_S_put rfl ⟨rfl, rfl⟩ ⟨Nat.le_of_ble_eq_true rfl, Nat.le_of_ble_eq_true rfl⟩ (fun _ _ _ _ h => h.calling) (fun U hU hW => ⟨by rw [hU], by rw [hU]; exact hP, hE.warm hW⟩) rfl (Nat.le_of_ble_eq_true rfl) dS_add_106 ⟨Nat.le_of_ble_eq_true rfl, Nat.le_of_ble_eq_true rfl⟩) hS (fun M_7 H locs hr_106 hP hS => ?_)
          refine lv_aload_n hx hb dS_add_109 rfl (lv_at hl 1 rfl) ?_
          refine lv_iload_n hx hb dS_add_110 rfl (lv_at hl 0 rfl) ?_
          refine bc_callv (bc_runV (own := RS) (C := RS) (As := [.int (nI (aN A))]) (rest := []) hx hb (hml.trans hl.1.symm) hown hts (kS_refreshLocal l D cs ad hI M_7 H.size (aN A) (by omega) (sTZ_keep hz (fun q h1 _ => by rw [hr_106, va_up_ne _ _ (by omega), hr_90, va_up_ne _ _ (by omega), hr_77, va_up_ne _ _ (by omega), eM_4, va_up_ne _ _ (by omega), eM_3, va_up_ne _ _ (by omega), eM_2, va_up_ne _ _ (by omega), eM_1, va_up_ne _ _ (by omega)]))) w_145 w_142 w_144 ws_sel_S_refreshLocal w_1 ⟨rfl, hd_S_refreshLocal⟩ rfl ⟨rfl, rfl⟩ ⟨Nat.le_of_ble_eq_true rfl, Nat.le_of_ble_eq_true rfl⟩ (fun _ _ _ _ h => h.calling) (bc_recv (r := (RS, TS, 14)) hE hP 0 (by decide) rfl rfl) (fun U hU hW => ⟨by rw [hU], by rw [hU]; exact hP, hE.warm hW⟩) rfl (Nat.le_of_ble_eq_true rfl) dS_add_111 ⟨Nat.le_of_ble_eq_true rfl, Nat.le_of_ble_eq_true rfl⟩) hS (fun M_8 H locs hr_111 hP hS => ?_)
          refine lv_iload_n hx hb dS_add_114 rfl (lv_at hl 0 rfl) ?_
          exact W.iret (v := nI (aN A)) hx hb hr (fun t ht hW => ⟨⟨_, M_8, rfl, Or.inl ⟨rfl, ⟨c_6, hr_14.t c_17, hk9⟩, hC.add c_6 (hr_14.t c_17) hk9 eM_1 eM_2 eM_3 eM_4 hr_77 hr_90 hr_106 hr_111⟩, by show va_P _ _ _ t.heap; rw [ht]; exact hP⟩, hS.F ht⟩) hS.2.2 dS_add_115
        · skip
          refine lv_iconst (v := (-1)) hx hb dS_add_29 (by decide) ?_
          exact W.iret (v := (-1)) hx hb hr (fun t ht hW => ⟨⟨_, M, rfl, Or.inr ⟨rfl, fun h9 => by have := h9.2.2.2; simp only [Int32.lt_iff_toInt_lt, Int32.le_iff_toInt_le, nI, Int32.reduceOfNat, Int32.reduceToInt] at c_26 this; omega, hC⟩, by show va_P _ _ _ t.heap; rw [ht]; exact hP⟩, hS.F ht⟩) hS.2.2 dS_add_30
