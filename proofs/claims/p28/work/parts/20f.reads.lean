/-! ===== what is asked is answered alike ===== -/
theorem rTk {X : XS} {f : Nat → Int32} (h : Rl X f) (seat : Int32) : mNo f seat = !(xTk (xn X) seat) := by
  have hn := h.x.n20
  cases q : xTk (xn X) seat with
  | true =>
    obtain ⟨k, hk, rfl⟩ := xTk_of (by omega) q
    exact mNo_in (by rw [← h.n]; exact hn) (by rw [← h.n]; exact hk)
  | false =>
    cases z : mNo f seat with
    | true => rfl
    | false =>
      obtain ⟨k, hk, rfl⟩ := mNo_no (by rw [← h.n]; exact hn) z
      rw [xTk_in hn (by rw [h.n]; exact hk)] at q
      cases q
theorem rEb {X : XS} {f : Nat → Int32} (h : Rl X f) {k : Nat} (hk : k < xn X) : b2i (xEb X k) = mE f k ∧ xEb X k = decide (mE f k = 1) := by
  have hn := h.x.n20
  have hlt := xE_lt h
  have e : xEb X k = (xE X).testBit k := by
    unfold xEb
    rw [h.E.1, pk_shrN (by omega) (nI k &&& 31) k (by
      have : ∀ j, j < 32 → ((nI j &&& 31).toBitVec.smod 32).toNat = j := by decide +kernel
      exact this k (by omega)), show (1 : Int32) = nI 1 from rfl, bnd, Nat.and_one_is_mod, show (0 : Int32) = nI 0 from rfl, Nat.testBit_eq_decide_div_mod_eq]
    have hm : xE X / 2 ^ k % 2 < 2 := Nat.mod_lt _ (by decide)
    rcases (show xE X / 2 ^ k % 2 = 0 ∨ xE X / 2 ^ k % 2 = 1 by omega) with q | q <;> rw [q] <;> decide
  rw [h.E.2.2.1 k hk, e]
  cases (xE X).testBit k <;> exact ⟨rfl, by decide⟩
theorem w_out {w : Int32} (h0 : ¬ w = 0) (h1 : ¬ w = 1) (h2 : ¬ w = 2) (h3 : ¬ w = 3) (h4 : ¬ w = 4) (h5 : ¬ w = 5) (h6 : ¬ w = 6) (h7 : ¬ w = 7) (h8 : ¬ w = 8) (h9 : ¬ w = 9) : w < 5 ∨ ¬ w ≤ 9 := by
  rw [Int32.lt_iff_toInt_lt, Int32.le_iff_toInt_le, show (5 : Int32).toInt = 5 by decide, show (9 : Int32).toInt = 9 by decide]
  have n : ∀ z : Int32, ¬ w = z → ¬ w.toInt = z.toInt := fun z q e => q (Int32.toInt_inj.mp e)
  have q5 := n 5 h5
  have q6 := n 6 h6
  have q7 := n 7 h7
  have q8 := n 8 h8
  have q9 := n 9 h9
  rw [show (5 : Int32).toInt = 5 by decide] at q5
  rw [show (6 : Int32).toInt = 6 by decide] at q6
  rw [show (7 : Int32).toInt = 7 by decide] at q7
  rw [show (8 : Int32).toInt = 8 by decide] at q8
  rw [show (9 : Int32).toInt = 9 by decide] at q9
  omega
theorem rNameK {X : XS} {f : Nat → Int32} (h : Rl X f) {k : Nat} (hk : k < xn X) (w : Int32) : yNameK X k w = mNameK f k w := by
  have hn := h.x.n20
  unfold yNameK mNameK yNbs xRb
  rw [h.l hk, rU h hk, (rEb h hk).1, rRow h.S (by omega), rCo h.S, rInk h hk, rSize h, rFits h hk, rBeg h hk, rMid h hk, h.S.1.2.2.1]
  by_cases h0 : w = 0
  · subst h0; simp
  by_cases h1 : w = 1
  · subst h1; simp
  by_cases h2 : w = 2
  · subst h2; simp
  by_cases h3 : w = 3
  · subst h3; simp
  by_cases h4 : w = 4
  · subst h4; simp
  by_cases h10 : w = 10
  · subst h10; simp
  by_cases h5 : w = 5
  · subst h5
    by_cases z : mSize f = 0
    · simp [z]
    · simp [z]
  by_cases h6 : w = 6
  · subst h6
    by_cases z : mSize f = 0
    · simp [z]
    · simp [z]
  by_cases h7 : w = 7
  · subst h7; simp
  by_cases h8 : w = 8
  · subst h8
    by_cases z : mSize f = 0
    · simp [z]
    · simp [z]
  by_cases h9 : w = 9
  · subst h9
    by_cases z : mSize f = 0
    · simp [z]
    · simp [z]
  rw [if_neg h0, if_neg h1, if_neg h2, if_neg h3, if_neg h4, if_neg h10, if_pos (w_out h0 h1 h2 h3 h4 h5 h6 h7 h8 h9), if_neg (fun q => q.2.elim h5 (fun q => q.elim h6 (fun q => q.elim h8 h9))), if_neg h0, if_neg h1, if_neg h2, if_neg h3, if_neg h4, if_neg h5, if_neg h6, if_neg h7, if_neg h8, if_neg h9, if_neg h10]
theorem rName {X : XS} {f : Nat → Int32} (h : Rl X f) (seat w : Int32) : yName X seat w = mName f seat w := by
  have hn := h.x.n20
  unfold yName mName
  rw [rTk h]
  cases q : xTk (xn X) seat with
  | false => rfl
  | true =>
    obtain ⟨k, hk, rfl⟩ := xTk_of (by omega) q
    rw [nI_clamp (show k < 2147483648 by omega)]
    exact rNameK h hk w
/-! sizes that are asked -/
theorem rPlate (w hh : Int32) : isPl w hh = (inR w 300 6000 && inR hh 100 3000) := by
  unfold isPl inR
  cases decide (w < 300) <;> cases decide (6000 < w) <;> cases decide (hh < 100) <;> cases decide (3000 < hh) <;> rfl
theorem inR_b {v a b : Int32} (h : inR v a b = true) : a.toInt ≤ v.toInt ∧ v.toInt ≤ b.toInt := by
  unfold inR at h
  simp only [Bool.and_eq_true, Bool.not_eq_true', decide_eq_false_iff_not, Int32.lt_iff_toInt_lt] at h
  omega
theorem rSizeBy {X : XS} {f : Nat → Int32} (h : Rl X f) (w hh : Int32) : ySizeBy X w hh = mSizeBy f w hh := by
  unfold ySizeBy mSizeBy
  rw [rPlate]
  cases q : inR w 300 6000 with
  | false => simp
  | true =>
    cases z : inR hh 100 3000 with
    | false => simp
    | true =>
      rw [Bool.and_self, if_pos rfl, if_pos ⟨rfl, rfl⟩]
      exact rFree h (inR_b q)
theorem rSizeWo {X : XS} {f : Nat → Int32} (h : Rl X f) (seat : Int32) : ySizeWo X seat = mSizeWo f seat := by
  have hn := h.x.n20
  unfold ySizeWo mSizeWo
  rw [rTk h]
  cases q : xTk (xn X) seat with
  | false => rfl
  | true =>
    obtain ⟨k, hk, rfl⟩ := xTk_of (by omega) q
    rw [if_neg (by decide), if_neg (by decide), rMostW h, h.S.1.1, h.S.1.2.1, ← h.n, show nI (xn X) - 1 = nI (xn X - 1) from pk_sub (show 1 ≤ xn X by omega)]
    exact rGr h.S h.S.2.1 (by rw [nI_toInt (by omega)]; omega)
theorem rAdjn {X : XS} {f : Nat → Int32} (h : Rl X f) (a b : Int32) : (if (xOk a && xOk b) = false then (-1001) else xAdj X a b) = if (mOk a && mOk b) = false then (-1001) else mAdj f a b := by
  rw [rAdj h.P]
  rfl
