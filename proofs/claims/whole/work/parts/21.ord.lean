/-! THE ORDER, twice: the place in the sorted row is the number of those before -/
theorem cntB_zero {P : Nat → Bool} : ∀ n, (∀ x, x < n → P x = false) → cntB P n = 0
  | 0, _ => rfl
  | n + 1, h => by rw [cntB, cntB_zero n (fun x hx => h x (by omega)), h n (by omega)]; rfl
theorem cntB_same {P Q : Nat → Bool} : ∀ n, (∀ x, x < n → P x = Q x) → cntB P n = cntB Q n
  | 0, _ => rfl
  | n + 1, h => by rw [cntB, cntB, cntB_same n (fun x hx => h x (by omega)), h n (by omega)]
theorem cntB_one {P Q : Nat → Bool} {y : Nat} (hP : P y = false) (hQ : Q y = true) : ∀ n, (∀ x, x < n → x ≠ y → Q x = P x) → y < n → cntB Q n = cntB P n + 1
  | 0, _, hy => by omega
  | n + 1, h, hy => by
    rw [cntB, cntB]
    by_cases c : n = y
    · subst c
      rw [hP, hQ, cntB_same n (fun x hx => h x (by omega) (by omega))]
      rfl
    · rw [h n (by omega) c, cntB_one hP hQ n (fun x hx => h x (by omega)) (by omega)]
      omega
theorem cntB_lt {P : Nat → Bool} {y : Nat} (hP : P y = false) : ∀ n, y < n → cntB P n < n
  | 0, hy => by omega
  | n + 1, hy => by
    rw [cntB]
    by_cases c : n = y
    · subst c
      have := cntB_le P n
      rw [hP]
      simp
      omega
    · have := cntB_lt hP n (by omega)
      split <;> omega
theorem ltK_irr {k1 k2 : Nat → Int} {a : Nat} : ¬ ltK k1 k2 a a := by unfold ltK; omega
theorem ltK_tr {k1 k2 : Nat → Int} {a b c : Nat} (h1 : ltK k1 k2 a b) (h2 : ltK k1 k2 b c) : ltK k1 k2 a c := by unfold ltK at *; omega
theorem cb_at {A : Ab} {z : Nat} {o : Nat → Nat} (h : srt (ky1 (aK A)) (ky2 (aK A) (adep A)) (fun n => sawB A n = true) (aN A) z o) : ∀ i, i < z → cbB A (o i) (aN A) = i := by
  have hb : ∀ x d, bfB A x d = true → ltK (ky1 (aK A)) (ky2 (aK A) (adep A)) x d := fun x d => (bfB_lt A x d).mp
  have hnb : ∀ x d, ¬ ltK (ky1 (aK A)) (ky2 (aK A) (adep A)) x d → bfB A x d = false := fun x d q => by
    cases c : bfB A x d with
    | false => rfl
    | true => exact absurd (hb x d c) q
  intro i
  induction i with
  | zero =>
    intro hi
    refine cntB_zero _ (fun x hx => ?_)
    show (sawB A x && bfB A x (o 0)) = false
    cases c : sawB A x with
    | false => rfl
    | true =>
      obtain ⟨j, hj, rfl⟩ := h.2.2 x hx c
      rw [Bool.true_and]
      refine hnb _ _ (fun q => ?_)
      by_cases cj : j = 0
      · subst cj; exact ltK_irr q
      · exact ltK_irr (ltK_tr q (h.2.1 0 j (by omega) hj))
  | succ i ih =>
    intro hi
    have hoi := h.1 i (by omega)
    have hlt := h.2.1 i (i + 1) (by omega) hi
    have h1 : cbB A (o (i + 1)) (aN A) = cbB A (o i) (aN A) + 1 := by
      refine cntB_one (y := o i) ?_ ?_ _ ?_ hoi.1
      · rw [hnb _ _ ltK_irr, Bool.and_false]
      · rw [(bfB_lt A _ _).mpr hlt, Bool.and_true]; exact hoi.2
      · intro x cN hx
        show (sawB A x && bfB A x (o (i + 1))) = (sawB A x && bfB A x (o i))
        cases c : sawB A x with
        | false => rfl
        | true =>
          rw [Bool.true_and, Bool.true_and]
          obtain ⟨j, hj, rfl⟩ := h.2.2 x cN c
          by_cases cj : j ≤ i
          · have cj2 : j < i := by
              rcases Nat.lt_or_ge j i with q | q
              · exact q
              · exact absurd (by rw [show j = i by omega]) hx
            rw [(bfB_lt A _ _).mpr (h.2.1 j i cj2 (by omega)), (bfB_lt A _ _).mpr (h.2.1 j (i + 1) (by omega) hi)]
          · have n1 : bfB A (o j) (o i) = false := hnb _ _ (fun q => ltK_irr (ltK_tr q (h.2.1 i j (by omega) hj)))
            have n2 : bfB A (o j) (o (i + 1)) = false := by
              by_cases ce : j = i + 1
              · rw [ce]; exact hnb _ _ ltK_irr
              · exact hnb _ _ (fun q => ltK_irr (ltK_tr q (h.2.1 (i + 1) j (by omega) hj)))
            rw [n1, n2]
    rw [h1, ih (by omega)]
theorem cb_lt (A : Ab) {d : Nat} (hd : d < aN A) : cbB A d (aN A) < aN A := by
  refine cntB_lt (y := d) ?_ _ hd
  have : bfB A d d = false := by
    cases c : bfB A d d with
    | false => rfl
    | true => exact absurd ((bfB_lt A d d).mp c) ltK_irr
  show (sawB A d && bfB A d d) = false
  rw [this, Bool.and_false]
theorem fnd_no {A : Ab} {k : Int32} : ∀ D, (∀ d, d < D → ¬ (sawB A d = true ∧ nI (cbB A d (aN A)) = k)) → fnd A k D = (-1)
  | 0, _ => rfl
  | D + 1, h => by
    show (if _ then _ else _) = _
    rw [if_neg (h D (by omega)), fnd_no D (fun d hd => h d (by omega))]
theorem fnd_at {A : Ab} {k : Int32} {y : Nat} (hy : sawB A y = true ∧ nI (cbB A y (aN A)) = k) : ∀ D, y < D → (∀ d, d < D → (sawB A d = true ∧ nI (cbB A d (aN A)) = k) → d = y) → fnd A k D = nI y
  | 0, h, _ => by omega
  | D + 1, h, hu => by
    show (if _ then _ else _) = _
    by_cases c : sawB A D = true ∧ nI (cbB A D (aN A)) = k
    · rw [if_pos c, hu D (by omega) c]
    · rw [if_neg c]
      have : D ≠ y := fun q => c (by rw [q]; exact hy)
      exact fnd_at hy D (by omega) (fun d hd => hu d (by omega))
/-- the class's answer is the reference's -/
theorem ord_eq {A : Ab} (hA : aOk A) {k r : Int32} (h : oAns A k r) : r = fnd A k (aN A) := by
  have hN := hA.1
  by_cases hk : 0 ≤ k ∧ k < nI (aN A)
  · obtain ⟨z, o, hs, v, hv, rfl, hr⟩ := h.1 hk
    have hcb := cb_at hs
    rcases hr with ⟨hvz, rfl⟩ | ⟨hvz, rfl⟩
    · have ho := hs.1 v hvz
      refine (fnd_at (y := o v) ⟨ho.2, by rw [hcb v hvz]⟩ _ ho.1 (fun d hd hm => ?_)).symm
      obtain ⟨j, hj, rfl⟩ := hs.2.2 d hd hm.1
      have := hm.2
      rw [hcb j hj] at this
      have hjz : j < aN A := by have := cb_lt A hd; rw [hcb j hj] at this; exact this
      rw [(nI_eq (by omega) (by omega)).mp this]
    · refine (fnd_no _ (fun d hd hm => ?_)).symm
      obtain ⟨j, hj, rfl⟩ := hs.2.2 d hd hm.1
      have := hm.2
      rw [hcb j hj] at this
      have hjz : j < aN A := by have := cb_lt A hd; rw [hcb j hj] at this; exact this
      have := (nI_eq (by omega) (by omega)).mp this
      omega
  · rw [h.2 hk]
    refine (fnd_no _ (fun d hd hm => hk ?_)).symm
    have hc := cb_lt A hd
    rw [← hm.2]
    exact ⟨nI_pos' (by omega), (nI_ltI (by omega) (by omega)).mpr hc⟩
