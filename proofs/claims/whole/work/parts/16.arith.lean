/-! ARITHMETIC: what the class works out in ints, the reference in longs -/
theorem l_back {x : Int64} (h1 : -2147483648 ≤ x.toInt) (h2 : x.toInt < 2147483648) : x.toInt32.toInt64 = x := by
  apply Int64.toInt_inj.mp
  rw [Int32.toInt_toInt64, Int64.toInt_toInt32]
  exact Int.bmod_eq_of_le (by omega) (by omega)
theorem jcl_rng (v : Int64) : -16777216 ≤ (jcl v).toInt ∧ (jcl v).toInt ≤ 16777216 := by
  have e1 : (16777216 : Int64).toInt = 16777216 := by decide
  have e2 : (-16777216 : Int64).toInt = -16777216 := by decide
  unfold jcl jmin
  by_cases c1 : v < 16777216
  · rw [if_pos c1]
    by_cases c2 : v < -16777216
    · rw [if_pos c2, e2]; omega
    · rw [if_neg c2]
      rw [Int64.lt_iff_toInt_lt, e1] at c1
      rw [Int64.lt_iff_toInt_lt, e2] at c2
      omega
  · rw [if_neg c1, if_neg (by decide), e1]; omega
theorem jcl_back (v : Int64) : (jcl v).toInt32.toInt64 = jcl v := by
  have := jcl_rng v
  exact l_back (by omega) (by omega)
theorem jcl_lo {v : Int64} (h : ¬ 0 ≤ lg_cmp v (-16777216)) : (-16777216 : Int64) = jcl v := by
  have e1 : (16777216 : Int64).toInt = 16777216 := by decide
  have e2 : (-16777216 : Int64).toInt = -16777216 := by decide
  rw [lg_cmp_ge, Int64.le_iff_toInt_le, e2] at h
  have c1 : v < 16777216 := by rw [Int64.lt_iff_toInt_lt, e1]; omega
  have c2 : v < -16777216 := by rw [Int64.lt_iff_toInt_lt, e2]; omega
  unfold jcl jmin
  rw [if_pos c1, if_pos c2]
theorem jcl_hi {v : Int64} (h : ¬ lg_cmp v 16777216 ≤ 0) : (16777216 : Int64) = jcl v := by
  have e1 : (16777216 : Int64).toInt = 16777216 := by decide
  rw [lg_cmp_le, Int64.le_iff_toInt_le, e1] at h
  have c1 : ¬ v < 16777216 := by rw [Int64.lt_iff_toInt_lt, e1]; omega
  unfold jcl jmin
  rw [if_neg c1, if_neg (by decide)]
theorem jcl_in {v : Int64} (h1 : 0 ≤ lg_cmp v (-16777216)) (h2 : lg_cmp v 16777216 ≤ 0) : v = jcl v := by
  have e1 : (16777216 : Int64).toInt = 16777216 := by decide
  have e2 : (-16777216 : Int64).toInt = -16777216 := by decide
  rw [lg_cmp_ge, Int64.le_iff_toInt_le, e2] at h1
  rw [lg_cmp_le, Int64.le_iff_toInt_le, e1] at h2
  unfold jcl jmin
  by_cases c1 : v < 16777216
  · have c2 : ¬ v < -16777216 := by rw [Int64.lt_iff_toInt_lt, e2]; omega
    rw [if_pos c1, if_neg c2]
  · rw [if_neg c1, if_neg (by decide)]
    rw [Int64.lt_iff_toInt_lt, e1] at c1
    exact Int64.toInt_inj.mp (by omega)
theorem dxor {P Q R : Prop} [Decidable P] [Decidable Q] [Decidable R] (h : decide P = (decide Q ^^ decide R)) : P ↔ ¬ (Q ↔ R) := by
  by_cases q : Q <;> by_cases r : R <;> by_cases p : P <;> simp_all
theorem xor32 (x y : Int32) : (x ^^^ y).toInt < 0 ↔ ¬ (x.toInt < 0 ↔ y.toInt < 0) := by
  have h : decide ((x ^^^ y).toBitVec.toInt < 0) = (decide (x.toBitVec.toInt < 0) ^^ decide (y.toBitVec.toInt < 0)) := by
    rw [← BitVec.msb_eq_toInt, ← BitVec.msb_eq_toInt, ← BitVec.msb_eq_toInt, Int32.toBitVec_xor, BitVec.msb_xor]
  exact dxor h
theorem xor64 (x y : Int64) : (x ^^^ y).toInt < 0 ↔ ¬ (x.toInt < 0 ↔ y.toInt < 0) := by
  have h : decide ((x ^^^ y).toBitVec.toInt < 0) = (decide (x.toBitVec.toInt < 0) ^^ decide (y.toBitVec.toInt < 0)) := by
    rw [← BitVec.msb_eq_toInt, ← BitVec.msb_eq_toInt, ← BitVec.msb_eq_toInt, Int64.toBitVec_xor, BitVec.msb_xor]
  exact dxor h
/-- k modulo 4096 -/
def jn0 (k : Int32) : Nat := (k.toInt % 4096).toNat
theorem jn0_lt (k : Int32) : jn0 k < 4096 := by unfold jn0; omega
theorem rem_pos {a : Nat} (ha : a < 2147483648) : nI a - nI a / nI 4096 * nI 4096 = nI (a % 4096) := pk_rem ha (by decide) (by decide)
theorem rem_neg {k : Int32} {a : Nat} (hk : k.toInt = -(a : Int)) (ha : a ≤ 2147483648) : k - k / nI 4096 * nI 4096 = -nI (a % 4096) := by
  have e4 : (nI 4096).toInt = 4096 := by decide
  have h1 : (k / nI 4096).toInt = -((a / 4096 : Nat) : Int) := by
    rw [Int32.toInt_div, hk, e4, Int.neg_tdiv, Int.tdiv_eq_ediv_of_nonneg (by omega), Int.bmod_eq_of_le (by omega) (by omega)]
    omega
  have h2 : (k / nI 4096 * nI 4096).toInt = -((a / 4096 * 4096 : Nat) : Int) := by
    rw [Int32.toInt_mul, h1, e4, Int.bmod_eq_of_le (by omega) (by omega)]
    omega
  apply Int32.toInt_inj.mp
  rw [Int32.toInt_sub, hk, h2, sb_negT (by omega), Int.bmod_eq_of_le (by omega) (by omega)]
  omega
theorem i32_cases (k : Int32) : (∃ a : Nat, a < 2147483648 ∧ k = nI a) ∨ ∃ a : Nat, 0 < a ∧ a ≤ 2147483648 ∧ k.toInt = -(a : Int) := by
  have h1 := Int32.le_toInt k
  have h2 := Int32.toInt_lt k
  by_cases c : k.toInt < 0
  · exact Or.inr ⟨(-k.toInt).toNat, by omega, by omega, by omega⟩
  · refine Or.inl ⟨k.toInt.toNat, by omega, Int32.toInt_inj.mp ?_⟩
    rw [nI_toInt (by omega)]
    omega
theorem neg_add {b : Nat} (hb : b < 4096) : -nI b + nI 4096 = nI (4096 - b) := by
  rw [Int32.add_comm, ← Int32.sub_eq_add_neg, pk_sub (by omega)]
theorem jang_val (k : Int32) : jang k = nI (jn0 k) := by
  have e4 : (nI 4096).toInt = 4096 := by decide
  have e0 : (0 : Int32).toInt = 0 := by decide
  unfold jang jfm
  rcases i32_cases k with ⟨a, ha, rfl⟩ | ⟨a, h0, ha, hk⟩
  · have hx : 0 ≤ nI a ^^^ nI 4096 := by
      have := xor32 (nI a) (nI 4096)
      rw [nI_toInt ha, e4] at this
      rw [Int32.le_iff_toInt_le, e0]
      omega
    rw [if_pos hx, rem_pos ha]
    unfold jn0
    rw [nI_toInt ha]
    exact congrArg nI (by omega)
  · have hx : ¬ 0 ≤ k ^^^ nI 4096 := by
      have := xor32 k (nI 4096)
      rw [hk, e4] at this
      rw [Int32.le_iff_toInt_le, e0]
      omega
    rw [if_neg hx, rem_neg hk ha]
    unfold jn0
    rw [hk]
    by_cases c : a % 4096 = 0
    · rw [c, if_pos (by decide)]
      have : (-(a : Int) % 4096).toNat = 0 := by omega
      rw [this]; decide
    · have hne : ¬ -nI (a % 4096) = 0 := by
        intro q
        have := congrArg Int32.toInt q
        rw [sb_negT (by omega), e0] at this
        omega
      rw [if_neg hne, neg_add (by omega)]
      exact congrArg nI (by omega)
theorem rem2_val (k : Int32) : (k - k / nI 4096 * nI 4096 + nI 4096) - (k - k / nI 4096 * nI 4096 + nI 4096) / nI 4096 * nI 4096 = nI (jn0 k) := by
  rcases i32_cases k with ⟨a, ha, rfl⟩ | ⟨a, h0, ha, hk⟩
  · rw [rem_pos ha, nI_add, rem_pos (by omega)]
    unfold jn0
    rw [nI_toInt ha]
    exact congrArg nI (by omega)
  · rw [rem_neg hk ha, neg_add (by omega), rem_pos (by omega)]
    unfold jn0
    rw [hk]
    exact congrArg nI (by omega)
def jq (n : Nat) : Nat := n % 2048 * (2048 - n % 2048)
def js (n : Nat) : Nat := 1048576 * jq n / (20971520 - 4 * jq n)
theorem jq_le (n : Nat) : jq n ≤ 4194304 := Nat.le_trans (Nat.mul_le_mul (show n % 2048 ≤ 2048 by omega) (show 2048 - n % 2048 ≤ 2048 by omega)) (by decide)
theorem js_le (n : Nat) : js n ≤ 1048576 := by
  have := jq_le n
  unfold js
  apply Nat.div_le_of_le_mul
  omega
theorem jp_val {n : Nat} (hn : n < 4096) : jp (jhalf (nI n)) = lN (jq n) := by
  have hh : jhalf (nI n) = nI (n % 2048) := by
    unfold jhalf
    by_cases c : 2048 ≤ n
    · rw [if_pos ((nI_leI (by decide) (by omega)).mpr c), pk_sub c]
      exact congrArg nI (by omega)
    · rw [if_neg (fun q => c ((nI_leI (by decide) (by omega)).mp q))]
      exact congrArg nI (by omega)
  rw [hh]
  unfold jp
  rw [pk_sub (by omega), nI_l (by omega), nI_l (by omega), lN_mul]
  rfl
theorem jdv_val (n : Nat) : jdv (lN (jq n)) = lN (20971520 - 4 * jq n) := by
  have := jq_le n
  unfold jdv
  show lN 20971520 - lN 4 * lN (jq n) = _
  rw [lN_mul, lN_sub (by omega)]
theorem jht_val (n : Nat) : jht (lN (jq n)) = lN (js n) := by
  have h := jq_le n
  unfold jht
  rw [jdv_val]
  have h0 : ¬ lg_cmp (lN (20971520 - 4 * jq n)) 0 ≤ 0 := by
    rw [lg_cmp_le]
    show ¬ lN (20971520 - 4 * jq n) ≤ lN 0
    rw [pk_lLE (by omega) (by decide)]
    omega
  rw [if_neg h0]
  show jfd (lN 1048576 * lN (jq n)) _ = _
  rw [lN_mul]
  unfold jfd
  have hx : 0 ≤ lg_cmp (lN (1048576 * jq n) ^^^ lN (20971520 - 4 * jq n)) 0 := by
    rw [lg_cmp_ge, Int64.le_iff_toInt_le]
    have e0 : (0 : Int64).toInt = 0 := by decide
    have := xor64 (lN (1048576 * jq n)) (lN (20971520 - 4 * jq n))
    rw [pk_lT (by omega), pk_lT (by omega)] at this
    rw [e0]
    omega
  rw [if_pos hx, pk_lDiv (by omega) (by omega) (by omega)]
  rfl
theorem lN_small {n : Nat} (h : n ≤ 1048576) : (lN n).toInt32.toInt64 = lN n ∧ (-lN n).toInt32.toInt64 = -lN n := by
  have e : (lN n).toInt = n := pk_lT (by omega)
  have e2 : (-lN n).toInt = -(n : Int) := by rw [Int64.toInt_neg, e]; exact Int.bmod_eq_of_le (by omega) (by omega)
  exact ⟨l_back (by omega) (by omega), l_back (by omega) (by omega)⟩
theorem jsin_val (k : Int32) : (jsin k).toInt64 = if 2048 ≤ jn0 k then -lN (js (jn0 k)) else lN (js (jn0 k)) := by
  have hn := jn0_lt k
  have hs := js_le (jn0 k)
  unfold jsin
  rw [jang_val, jp_val hn, jht_val]
  unfold jsg
  by_cases c : 2048 ≤ jn0 k
  · rw [if_pos ((nI_leI (by decide) (by omega)).mpr c), if_pos c]
    exact (lN_small hs).2
  · rw [if_neg (fun q => c ((nI_leI (by decide) (by omega)).mp q)), if_neg c]
    exact (lN_small hs).1
theorem neg_back (x : Int32) (h : -1048576 ≤ x.toInt) : (-x).toInt64 = -x.toInt64 := by
  have h2 := Int32.toInt_lt x
  apply Int64.toInt_inj.mp
  rw [Int32.toInt_toInt64, Int32.toInt_neg, Int64.toInt_neg, Int32.toInt_toInt64, Int.bmod_eq_of_le (by omega) (by omega), Int.bmod_eq_of_le (by omega) (by omega)]
theorem jsin_rng (k : Int32) : -1048576 ≤ (jsin k).toInt := by
  have h := jsin_val k
  have hs := js_le (jn0 k)
  have e : (lN (js (jn0 k))).toInt = js (jn0 k) := pk_lT (by omega)
  have h1 : (jsin k).toInt = (jsin k).toInt64.toInt := (Int32.toInt_toInt64 _).symm
  rw [h1, h]
  split
  · rw [Int64.toInt_neg, e, Int.bmod_eq_of_le (by omega) (by omega)]; omega
  · rw [e]; omega
/-- the reference's sum, in its own order -/
theorem sum_eq (a b : Nat → Int32) (i j : Nat) (hj : j < 4) : (if j = 3 then (a (4 * i + 3)).toInt64 else 0) + jmul (a (4 * i + 0)).toInt64 (b (4 * 0 + j)).toInt64 + jmul (a (4 * i + 1)).toInt64 (b (4 * 1 + j)).toInt64 + jmul (a (4 * i + 2)).toInt64 (b (4 * 2 + j)).toInt64 = if j = 3 then jsum a b i j + (a (4 * i + 3)).toInt64 else jsum a b i j := by
  unfold jsum
  rw [show 4 * 0 + j = j by omega, show 4 * 1 + j = 4 + j by omega, show 4 * 2 + j = 8 + j by omega, show 4 * i + 0 = 4 * i by omega]
  by_cases c : j = 3
  · rw [if_pos c, if_pos c]
    ac_rfl
  · rw [if_neg c, if_neg c, Int64.zero_add]
