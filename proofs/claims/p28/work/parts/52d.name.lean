/-! ===== what the law reckons of one name ===== -/
theorem xL_ge {c : Int32} (h : xL c = true) : 65 ≤ c := by
  unfold xL at h
  simp only [Bool.and_eq_true, Bool.not_eq_true', decide_eq_false_iff_not] at h
  exact Int32.not_lt.mp h.1
theorem xO_lt {c : Int32} (h : xOk c = true) (q : ¬ 65 ≤ c) : nI 2 = xO c := by
  by_cases h1 : c = 46
  · subst h1; decide
  · by_cases h2 : c = 45
    · subst h2; decide
    · exact absurd (xL_ge (ok_L h h1 h2)) q
theorem xO_ge {c : Int32} (q : 65 ≤ c) : irem (c - 65) 3 = xO c := by
  unfold xO
  rw [if_neg]
  rintro (z | z)
  · subst z; exact absurd q (by decide)
  · subst z; exact absurd q (by decide)
theorem sok {X : XS} {f : Nat → Int32} (h : Rl X f) {k j : Nat} (hk : k < xn X) (hj : j < xl X k) : xOk (xSg X k j) = true := (h.N.2.2 k j hk hj).2
theorem sgc {X : XS} (h : okX X) {k j : Nat} (hk : k < 20) (hj : j < 16) : chOk (xSg X k j) := h.c (show k * 16 + j < 320 by omega)
theorem adB {X : XS} {a b : Int32} (ha : xOk a = true) (hb : xOk b = true) : (if (xOk a && xOk b) = true then xAdj X a b else (-1001)) = xAdj X a b := if_pos (by rw [ha, hb]; rfl)
theorem sp_e {X : XS} {k j : Nat} (h : j + 1 < xl X k) : xSp X k j = if 6 - (xO (xSg X k j) + xO (xSg X k (j + 1))) + xAdj X (xSg X k j) (xSg X k (j + 1)) < 1 then 1 else 6 - (xO (xSg X k j) + xO (xSg X k (j + 1))) + xAdj X (xSg X k j) (xSg X k (j + 1)) := by
  unfold xSp
  rw [if_neg (by omega), imax1, Int32.sub_sub]
theorem sp_ne {X : XS} {k j : Nat} (h : j + 1 < xl X k) : ¬ xSp X k j = -1005 := by
  rw [sp_e h]
  split
  · decide
  · rename_i q
    intro z
    rw [z] at q
    exact q (by decide)
theorem ms_e (X : XS) (k j : Nat) : xSp X k j + (xO (xSg X k j) + xO (xSg X k (j + 1))) = xMs X k j := (Int32.add_assoc _ _ _).symm
theorem ub_M (X : XS) (k j : Nat) : xUb X k (j + 1) = xUb X k j + xW (xSg X k j) + xSp X k j := (Int32.add_assoc _ _ _).symm
theorem ub_L {X : XS} {k j : Nat} (h : xl X k ≤ j + 1) : xUb X k (j + 1) = xUb X k j + xW (xSg X k j) := by
  have e : xSp X k j = 0 := if_pos h
  rw [ub_M, e, Int32.add_zero]
theorem lt_65 {c : Int32} (h : xL c = true) : ¬ c < 65 := Int32.not_lt.mpr (xL_ge h)
theorem no_two {X : XS} (hv : vX X) {k j : Nat} (hk : k < xn X) (hj : j + 1 < xl X k) (q1 : ¬ 65 ≤ xSg X k j) (q2 : xSg X k (j + 1) < 65) : False := by
  rcases (hv.N k hk).2 j hj with z | z
  · exact q1 (xL_ge z)
  · exact lt_65 z q2
theorem no_0 {X : XS} (hv : vX X) {k j : Nat} (hk : k < xn X) (hj : j < xl X k) (h0 : j = 0) (q1 : ¬ 65 ≤ xSg X k j) : False := by
  subst h0
  exact q1 (xL_ge ((hv.N k hk).1 hj))
theorem xSize_in {X : XS} {f : Nat → Int32} (h : Rl X f) : 0 ≤ (xSize X).toInt ∧ (xSize X).toInt ≤ 40 := by
  rw [rSize h]
  exact mSize_in h
theorem size_eb {X : XS} {f : Nat → Int32} (h : Rl X f) {k : Nat} (hk : k < xn X) (e : xEb X k = true) : ¬ xSize X = 0 := by
  have e2 := xEng_of h hk e
  obtain ⟨e3, e4, -⟩ := h.E.2.2.2 ((rEng h).1.mp e2)
  rw [xSize_e e2, e3]
  intro q
  rw [q, Int32.toInt_zero] at e4
  omega
theorem eb_fits {X : XS} {f : Nat → Int32} (h : Rl X f) (hv : vX X) {k : Nat} (hk : k < xn X) (e : xEb X k = true) : xFits X k (xSize X) = true := by
  rw [xSize_e (xEng_of h hk e)]
  exact hv.F k hk e
/-! bounds -/
theorem cb_in {X : XS} {f : Nat → Int32} (h : Rl X f) {k : Nat} (hk : k < xn X) : 0 ≤ (xCb X k).toInt ∧ (xCb X k).toInt ≤ 12100 := by
  have hn := h.x.n20
  rw [rCb h.S]
  exact mCb_in h.S (by omega)
theorem cw_in {X : XS} {f : Nat → Int32} (h : Rl X f) : 0 ≤ (xCw X (X 5 2)).toInt ∧ (xCw X (X 5 2)).toInt ≤ 6000 := by
  rw [rCol h.S]
  exact mCol_in h.S
theorem uz_in {X : XS} {f : Nat → Int32} (h : Rl X f) {k : Nat} (hk : k < xn X) {z : Int32} (hz : 0 ≤ z.toInt ∧ z.toInt ≤ 40) : 0 ≤ (xU X k * z).toInt ∧ (xU X k * z).toInt ≤ 288 * 40 := by
  have hu := xU_in h hk
  exact ti_mul (a := xU X k) (m := 288) (by omega) hz (by decide)
theorem beg_in {X : XS} {f : Nat → Int32} (h : Rl X f) {k : Nat} (hk : k < xn X) {z : Int32} (hz : 0 ≤ z.toInt ∧ z.toInt ≤ 40) : 0 ≤ (xBeg X k z).toInt ∧ (xBeg X k z).toInt ≤ 18100 := by
  rw [rBeg h hk]
  exact mBeg_in h hk hz
theorem beg_cl {X : XS} {f : Nat → Int32} (h : Rl X f) {k : Nat} (hk : k < xn X) (z : Int32) : (xCb X k).toInt ≤ (xBeg X k z).toInt ∧ ((xBeg X k z).toInt ≤ (xCb X k + xCw X (X 5 2) - xU X k * z).toInt ∨ xBeg X k z = xCb X k) := by
  unfold xBeg
  rw [clamp_eq]
  exact clampI_in _ _ _
theorem beg_ge {X : XS} {f : Nat → Int32} (h : Rl X f) {k : Nat} (hk : k < xn X) (z : Int32) : ¬ xBeg X k z < xCb X k := by
  rw [Int32.lt_iff_toInt_lt]
  have := (beg_cl h hk z).1
  omega
theorem beg_le {X : XS} {f : Nat → Int32} (h : Rl X f) {k : Nat} (hk : k < xn X) (q : ¬ xBeg X k (xSize X) + xU X k * xSize X ≤ xCb X k + xCw X (X 5 2)) : xBeg X k (xSize X) = xCb X k := by
  have hz := xSize_in h
  obtain ⟨a1, a2⟩ := beg_cl h hk (xSize X)
  rcases a2 with a2 | a2
  · exfalso
    apply q
    have b1 := cb_in h hk
    have b2 := cw_in h
    have b3 := uz_in h hk hz
    have b4 := beg_in h hk hz
    have e1 : (xCb X k + xCw X (X 5 2)).toInt = (xCb X k).toInt + (xCw X (X 5 2)).toInt := ti_add (by omega)
    rw [ti_sub (by omega), e1] at a2
    rw [Int32.le_iff_toInt_le, ti_add (by omega), e1]
    omega
  · exact a2
theorem tdiv2 (a : Int) : (a.tdiv 2 * 2 ≤ a → a.tdiv 2 = a / 2) ∧ (¬ a.tdiv 2 * 2 ≤ a → a.tdiv 2 - 1 = a / 2) := by
  rcases Int.lt_or_le a 0 with q | q
  · have e : a.tdiv 2 = -((-a) / 2) := by
      have h1 := Int.neg_tdiv (a := -a) (b := 2)
      rw [Int.neg_neg] at h1
      rw [h1, Int.tdiv_eq_ediv_of_nonneg (by omega)]
    rw [e]
    omega
  · rw [Int.tdiv_eq_ediv_of_nonneg q]
    omega
theorem mDown2 (a : Int32) : (mDown a 2).toInt = a.toInt / 2 := by
  have e2 : (2 : Int32).toInt = 2 := by decide
  have hd := div_ti (a := a) (b := 2) (by decide)
  have hm := divm_ti (a := a) (b := 2) (by decide)
  rw [e2] at hd hm
  obtain ⟨t1, t2⟩ := tdiv2 a.toInt
  have hl := a.toInt_lt
  have hg := a.le_toInt
  unfold mDown
  by_cases q : a / 2 * 2 ≤ a
  · rw [if_pos q, hd]
    rw [Int32.le_iff_toInt_le, hm] at q
    exact t1 q
  · rw [if_neg q]
    rw [Int32.le_iff_toInt_le, hm] at q
    have := t2 q
    rw [ti_sub (by rw [hd, show (1 : Int32).toInt = 1 by decide]; omega), hd, show (1 : Int32).toInt = 1 by decide]
    exact this
def xMd (X : XS) (k : Nat) : Int32 := xCb X k + fdiv (xCw X (X 5 2) - xU X k * xSize X) 2
theorem mid_e {X : XS} {f : Nat → Int32} (h : Rl X f) {k : Nat} (hk : k < xn X) : mDown (2 * xCb X k + xCw X (X 5 2) - xU X k * xSize X) 2 = xMd X k := by
  have hz := xSize_in h
  have b1 := cb_in h hk
  have b2 := cw_in h
  have b3 := uz_in h hk hz
  have e2 : (2 * xCb X k).toInt = 2 * (xCb X k).toInt := by rw [Int32.toInt_mul, show (2 : Int32).toInt = 2 by decide, Int.bmod_eq_of_le (by omega) (by omega)]
  have e3 : (2 * xCb X k + xCw X (X 5 2)).toInt = 2 * (xCb X k).toInt + (xCw X (X 5 2)).toInt := by rw [ti_add (by omega), e2]
  have e4 : (2 * xCb X k + xCw X (X 5 2) - xU X k * xSize X).toInt = 2 * (xCb X k).toInt + (xCw X (X 5 2)).toInt - (xU X k * xSize X).toInt := by rw [ti_sub (by omega), e3]
  have e5 : (xCw X (X 5 2) - xU X k * xSize X).toInt = (xCw X (X 5 2)).toInt - (xU X k * xSize X).toInt := ti_sub (by omega)
  apply Int32.toInt_inj.mp
  unfold xMd
  rw [mDown2, fdiv_down (by decide), ti_add (by rw [mDown2, e5]; omega), mDown2, e4, e5]
  omega
theorem mid_ge {X : XS} {k : Nat} (q : xCb X k ≤ xMd X k) : xMd X k = xMid X k (xSize X) := by
  have e : xMid X k (xSize X) = imax (xCb X k) (xMd X k) := rfl
  rw [e]
  unfold imax
  by_cases z : xCb X k < xMd X k
  · rw [if_pos z]
  · rw [if_neg z]
    exact (Int32.le_antisymm q (Int32.not_lt.mp z)).symm
theorem mid_lt {X : XS} {k : Nat} (q : ¬ xCb X k ≤ xMd X k) : xCb X k = xMid X k (xSize X) := by
  have e : xMid X k (xSize X) = imax (xCb X k) (xMd X k) := rfl
  rw [e]
  unfold imax
  rw [if_neg (fun z => q (Int32.le_of_lt z))]
