/-! ===== quotients ===== -/
theorem toI_of {a : Int32} (h : 0 ≤ a.toInt) : ∃ p : Nat, p < 2147483648 ∧ a = nI p := by
  have hl := a.toInt_lt
  refine ⟨a.toInt.toNat, by omega, ?_⟩
  apply Int32.toInt_inj.mp
  rw [nI_toInt (by omega)]
  omega
theorem div_ti {a b : Int32} (h0 : 0 < b.toInt) : (a / b).toInt = a.toInt.tdiv b.toInt := by
  have hl := a.toInt_lt
  have hg := a.le_toInt
  have hn : (a.toInt.tdiv b.toInt).natAbs = a.toInt.natAbs / b.toInt.natAbs := Int.natAbs_tdiv a.toInt b.toInt
  have hle : a.toInt.natAbs / b.toInt.natAbs ≤ a.toInt.natAbs := Nat.div_le_self _ _
  rw [Int32.toInt_div]
  refine Int.bmod_eq_of_le ?_ ?_
  · omega
  · rcases Int.lt_or_le a.toInt 0 with q | q
    · have : a.toInt.tdiv b.toInt ≤ 0 := by
        have := Int.neg_tdiv (a := a.toInt) (b := b.toInt)
        have h2 : 0 ≤ (-a.toInt).tdiv b.toInt := Int.tdiv_nonneg (by omega) (by omega)
        omega
      omega
    · omega
theorem tdiv_mul_le {a b : Int} (hb : 0 < b) : (0 ≤ a → 0 ≤ a.tdiv b * b ∧ a.tdiv b * b ≤ a) ∧ (a < 0 → a ≤ a.tdiv b * b ∧ a.tdiv b * b ≤ 0) := by
  have key : ∀ c : Int, 0 ≤ c → 0 ≤ c.tdiv b * b ∧ c.tdiv b * b ≤ c := fun c hc => by
    rw [Int.tdiv_eq_ediv_of_nonneg hc]
    have h1 := Int.mul_ediv_self_le (x := c) (k := b) (by omega)
    have h2 := Int.ediv_nonneg hc (Int.le_of_lt hb)
    rw [Int.mul_comm] at h1
    exact ⟨Int.mul_nonneg h2 (Int.le_of_lt hb), h1⟩
  refine ⟨key a, fun ha => ?_⟩
  obtain ⟨h1, h2⟩ := key (-a) (by omega)
  rw [Int.neg_tdiv, Int.neg_mul] at h1 h2
  omega
theorem divm_ti {a b : Int32} (h0 : 0 < b.toInt) : (a / b * b).toInt = a.toInt.tdiv b.toInt * b.toInt := by
  have hl := a.toInt_lt
  have hg := a.le_toInt
  rw [Int32.toInt_mul, div_ti h0]
  obtain ⟨h1, h2⟩ := tdiv_mul_le (a := a.toInt) h0
  refine Int.bmod_eq_of_le ?_ ?_
  · rcases Int.lt_or_le a.toInt 0 with q | q
    · have := h2 q; omega
    · have := h1 q; omega
  · rcases Int.lt_or_le a.toInt 0 with q | q
    · have := h2 q; omega
    · have := h1 q; omega
theorem fdiv_nn {a b : Int32} (ha : 0 ≤ a.toInt) (hb : 0 ≤ b.toInt) : fdiv a b = a / b := by
  unfold fdiv
  obtain ⟨p, hp, rfl⟩ := toI_of ha
  obtain ⟨q, hq, rfl⟩ := toI_of hb
  refine if_pos ?_
  have e : nI p ^^^ nI q = nI (p ^^^ q) := by
    apply Int32.toBitVec_inj.mp
    show BitVec.ofNat 32 p ^^^ BitVec.ofNat 32 q = BitVec.ofNat 32 (p ^^^ q)
    apply BitVec.eq_of_getLsbD_eq
    intro i hi
    simp [hi]
  rw [e]
  exact nI_pos' (Nat.xor_lt_two_pow (n := 31) hp hq)
theorem xor_neg {a b : Int32} (ha : a.toInt < 0) (hb : 0 ≤ b.toInt) : ¬ 0 ≤ a ^^^ b := by
  have e1 : a.toBitVec.msb = true := by rw [BitVec.msb_eq_toInt]; exact decide_eq_true ha
  have e2 : b.toBitVec.msb = false := by rw [BitVec.msb_eq_toInt]; exact decide_eq_false (by show ¬ b.toInt < 0; omega)
  have e3 : (a ^^^ b).toBitVec.msb = true := by rw [Int32.toBitVec_xor, BitVec.msb_xor, e1, e2]; rfl
  rw [BitVec.msb_eq_toInt] at e3
  have e4 := of_decide_eq_true e3
  rw [Int32.le_iff_toInt_le, Int32.toInt_zero]
  exact Int.not_le.mpr e4
theorem fdiv_down {a b : Int32} (hb : 0 < b.toInt) : fdiv a b = mDown a b := by
  have hm := divm_ti (a := a) hb
  obtain ⟨h1, h2⟩ := tdiv_mul_le (a := a.toInt) hb
  rcases Int.lt_or_le a.toInt 0 with q | q
  · unfold fdiv mDown
    rw [if_neg (xor_neg q (Int.le_of_lt hb))]
    by_cases e : a / b * b = a
    · rw [if_pos e, if_pos (by rw [e]; exact Int32.le_refl _)]
    · rw [if_neg e, if_neg]
      intro z
      rw [Int32.le_iff_toInt_le, hm] at z
      exact e (Int32.toInt_inj.mp (by rw [hm]; have := h2 q; omega))
  · rw [fdiv_nn q (Int.le_of_lt hb)]
    unfold mDown
    rw [if_pos]
    rw [Int32.le_iff_toInt_le, hm]
    exact (h1 q).2
theorem xq_nn {a b : Int32} (ha : 0 ≤ a.toInt) (hb : 0 < b.toInt) : xq a b = a / b := by
  unfold xq
  rw [if_neg (by rw [Int32.le_iff_toInt_le, Int32.toInt_zero]; omega)]
  exact fdiv_nn ha (Int.le_of_lt hb)
theorem xq_down {a b : Int32} (hb : 0 < b.toInt) : xq a b = mDown a b := by
  unfold xq
  rw [if_neg (by rw [Int32.le_iff_toInt_le, Int32.toInt_zero]; omega)]
  exact fdiv_down hb
/-! rows and columns -/
theorem rw2m {w m : Int32} (hw : 100 ≤ w.toInt ∧ w.toInt ≤ 6000) (hm : 0 ≤ m.toInt ∧ m.toInt ≤ 100) : (w - 2 * m).toInt = w.toInt - 2 * m.toInt := by
  rw [Int32.toInt_sub, Int32.toInt_mul, show (2 : Int32).toInt = 2 by decide, Int.bmod_eq_of_le (n := 2 * m.toInt) (by omega) (by omega)]
  exact Int.bmod_eq_of_le (by omega) (by omega)
theorem rCw {X : XS} {f : Nat → Int32} (h : rS X f) {w : Int32} (hw : 300 ≤ w.toInt ∧ w.toInt ≤ 6000) : xCw X w = mCw f w := by
  obtain ⟨⟨s2, s3, s4, s5, s8, s9⟩, b0, b1, b2, b3⟩ := h
  unfold xCw mCw
  rw [s4, s5]
  refine xq_nn ?_ (by omega)
  rw [rw2m (by omega) b2]
  omega
theorem rCol {X : XS} {f : Nat → Int32} (h : rS X f) : xCw X (X 5 2) = mCol f := by
  rw [h.1.1]
  exact rCw h h.2.1
theorem rRow {X : XS} {f : Nat → Int32} (h : rS X f) {k : Nat} (hk : k < 2147483648) : xRow X k = mRow f k := by
  unfold xRow mRow
  rw [h.1.2.2.2.1]
  have b3 := h.2.2.2.2
  exact xq_nn (by rw [nI_toInt hk]; omega) (by omega)
theorem rRows {X : XS} {f : Nat → Int32} (h : rS X f) {n : Int32} (hn : 0 ≤ n.toInt ∧ n.toInt ≤ 1000) : xRows X n = mRows f n := by
  unfold xRows mRows
  rw [h.1.2.2.2.1]
  have b3 := h.2.2.2.2
  refine xq_nn ?_ (by omega)
  rw [Int32.toInt_sub, Int32.toInt_add, show (1 : Int32).toInt = 1 by decide, Int.bmod_eq_of_le (n := n.toInt + (f 3).toInt) (by omega) (by omega), Int.bmod_eq_of_le (by omega) (by omega)]
  omega
theorem rCo {X : XS} {f : Nat → Int32} (h : rS X f) (k : Nat) : xCo X k = irem (nI k) (f 3) := by
  unfold xCo
  rw [h.1.2.2.2.1]
  have b3 := h.2.2.2.2
  rw [if_neg (by rw [Int32.le_iff_toInt_le, Int32.toInt_zero]; omega)]
theorem rCb {X : XS} {f : Nat → Int32} (h : rS X f) (k : Nat) : xCb X k = mCb f k := by
  unfold xCb mCb
  rw [rCo h, rCol h, h.1.2.2.1]
