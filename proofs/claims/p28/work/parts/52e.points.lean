/-! ===== what the law reckons of points ===== -/
theorem fr_e {X : XS} {k : Nat} {z : Int32} : ∀ {i : Nat}, xFr X k z i = xBeg X k z + xUb X k i * z
  | 0 => by
    show xBeg X k z = xBeg X k z + 0 * z
    rw [Int32.zero_mul, Int32.add_zero]
  | i + 1 => by
    have ih := fr_e (X := X) (k := k) (z := z) (i := i)
    show xFr X k z i + xW (xSg X k i) * z + xSp X k i * z = xBeg X k z + (xUb X k i + (xW (xSg X k i) + xSp X k i)) * z
    rw [ih, Int32.add_mul, Int32.add_mul, Int32.add_assoc, Int32.add_assoc]
theorem sb_e {X : XS} {k j : Nat} {z : Int32} (h : ¬ z = 0) : ySb X k j z = xFr X k z j := by
  rw [fr_e]
  exact if_neg h
theorem w_in {X : XS} {f : Nat → Int32} (h : Rl X f) {k j : Nat} (hk : k < xn X) (hj : j < xl X k) : 2 ≤ (xW (xSg X k j)).toInt ∧ (xW (xSg X k j)).toInt ≤ 9 := by
  rw [rW (sok h hk hj)]
  exact mW_in _
theorem fr_in {X : XS} {f : Nat → Int32} (h : Rl X f) {k : Nat} (hk : k < xn X) {z : Int32} (hz : 0 ≤ z.toInt ∧ z.toInt ≤ 40) {i : Nat} (hi : i < xl X k) : 0 ≤ (xFr X k z i).toInt ∧ (xFr X k z i).toInt ≤ 30000 := by
  have hl16 := h.x.l16 (show k < 20 by have := h.x.n20; omega)
  rw [rFr h hk z hi]
  exact mFrm_in h hk hz (by omega)
theorem wz_in {X : XS} {f : Nat → Int32} (h : Rl X f) {k j : Nat} (hk : k < xn X) (hj : j < xl X k) {z : Int32} (hz : 1 ≤ z.toInt ∧ z.toInt ≤ 40) : 1 ≤ (xW (xSg X k j) * z).toInt ∧ (xW (xSg X k j) * z).toInt ≤ 9 * 40 := by
  have hw := w_in h hk hj
  have h1 : 2 * 1 ≤ (xW (xSg X k j)).toInt * z.toInt := Int.mul_le_mul hw.1 hz.1 (by omega) (by omega)
  have h2 : (xW (xSg X k j)).toInt * z.toInt ≤ 9 * 40 := Int.mul_le_mul hw.2 hz.2 (by omega) (by omega)
  rw [Int32.toInt_mul, Int.bmod_eq_of_le (by omega) (by omega)]
  omega
theorem sz_in {X : XS} {f : Nat → Int32} (h : Rl X f) {k j : Nat} (hk : k < xn X) (hj : j + 1 < xl X k) {z : Int32} (hz : 1 ≤ z.toInt ∧ z.toInt ≤ 40) : 0 ≤ (xSp X k j * z).toInt ∧ (xSp X k j * z).toInt ≤ 9 * 40 := by
  have e := rSp h hk hj
  have hs := mSpace_in h.P (mSg f k j) (mSg f k (j + 1))
  rw [e]
  exact ti_mul (m := 9) (n := 40) (by omega) (by omega) (by decide)
/-- a sign begins behind all that stand before it -/
theorem fr_s {X : XS} {f : Nat → Int32} (h : Rl X f) {k : Nat} (hk : k < xn X) {z : Int32} (hz : 1 ≤ z.toInt ∧ z.toInt ≤ 40) {i : Nat} (hi : i + 1 < xl X k) : (xFr X k z i + xW (xSg X k i) * z).toInt ≤ (xFr X k z (i + 1)).toInt := by
  have a1 := fr_in h hk (z := z) (by omega) (show i < xl X k by omega)
  have a2 := wz_in h hk (show i < xl X k by omega) hz
  have a3 := sz_in h hk hi hz
  have e1 : (xFr X k z i + xW (xSg X k i) * z).toInt = (xFr X k z i).toInt + (xW (xSg X k i) * z).toInt := ti_add (by omega)
  have e2 : (xFr X k z i + xW (xSg X k i) * z + xSp X k i * z).toInt = (xFr X k z i + xW (xSg X k i) * z).toInt + (xSp X k i * z).toInt := ti_add (by omega)
  show _ ≤ (xFr X k z i + xW (xSg X k i) * z + xSp X k i * z).toInt
  rw [e2]
  omega
theorem fr_m {X : XS} {f : Nat → Int32} (h : Rl X f) {k : Nat} (hk : k < xn X) {z : Int32} (hz : 1 ≤ z.toInt ∧ z.toInt ≤ 40) {i : Nat} : ∀ {d : Nat}, i + 1 + d < xl X k → (xFr X k z i + xW (xSg X k i) * z).toInt ≤ (xFr X k z (i + 1 + d)).toInt
  | 0, hd => fr_s h hk hz hd
  | d + 1, hd => by
    have ih := fr_m h hk hz (i := i) (d := d) (by omega)
    have s1 := fr_s h hk hz (i := i + 1 + d) (by omega)
    have a1 := fr_in h hk (z := z) (by omega) (show i + 1 + d < xl X k by omega)
    have a2 := wz_in h hk (show i + 1 + d < xl X k by omega) hz
    have e1 : (xFr X k z (i + 1 + d) + xW (xSg X k (i + 1 + d)) * z).toInt = (xFr X k z (i + 1 + d)).toInt + (xW (xSg X k (i + 1 + d)) * z).toInt := ti_add (by omega)
    have e2 : i + 1 + (d + 1) = i + 1 + d + 1 := rfl
    rw [e2]
    omega
theorem ht_i {X : XS} {k : Nat} {p z : Int32} {i : Nat} : xHt X k p z i = true ↔ (xFr X k z i).toInt ≤ p.toInt ∧ p.toInt < (xFr X k z i + xW (xSg X k i) * z).toInt := by
  unfold xHt
  simp only [Bool.and_eq_true, Bool.not_eq_true', decide_eq_false_iff_not, Int32.lt_iff_toInt_lt, Int32.le_iff_toInt_le]
  omega
/-- the point is the sign's: it is found -/
theorem ix_is {X : XS} {f : Nat → Int32} (h : Rl X f) {k x : Nat} (hk : k < xn X) (hx : x < xl X k) {p z : Int32} (hz : 1 ≤ z.toInt ∧ z.toInt ≤ 40) (q : xHt X k p z x = true) : xIx X k p z = nI x := by
  have e : fstN (xHt X k p z) (xl X k) = x := by
    refine fstN_eq (Nat.le_of_lt hx) (fun j hj => ?_) (fun _ => q)
    rw [Bool.eq_false_iff]
    intro y
    rw [ht_i] at q y
    obtain ⟨d, rfl⟩ : ∃ d, x = j + 1 + d := ⟨x - (j + 1), by omega⟩
    have := fr_m h hk hz (i := j) (d := d) hx
    omega
  unfold xIx
  rw [e, if_pos hx]
theorem ix_or {X : XS} {f : Nat → Int32} (h : Rl X f) {k : Nat} (hk : k < xn X) (p z : Int32) : (∃ i, i < 16 ∧ i < xl X k ∧ xIx X k p z = nI i ∧ xHt X k p z i = true) ∨ xIx X k p z = -1 := by
  have hl16 := h.x.l16 (show k < 20 by have := h.x.n20; omega)
  unfold xIx
  by_cases q : fstN (xHt X k p z) (xl X k) < xl X k
  · rw [if_pos q]
    exact Or.inl ⟨_, by omega, q, rfl, fstN_yes _ _ q⟩
  · rw [if_neg q]
    exact Or.inr rfl
/-- what a point tells, where the plate has a size -/
theorem at_or {X : XS} {f : Nat → Int32} (h : Rl X f) {p y : Int32} (hp : ¬ p < 0) (hy : ¬ y < 0) (hz : ¬ xSize X = 0) : (∃ t i, t < xn X ∧ i < 16 ∧ i < xl X t ∧ yAt X p y = nI (100 * t + i) ∧ fstN (yHk X (xSize X) p y) (xn X) = t ∧ xHt X t p (xSize X) i = true ∧ xIx X t p (xSize X) = nI i) ∨ (yAt X p y = -1005 ∧ ∀ t, t < xn X → yHk X (xSize X) p y t = false) := by
  have hn := h.x.n20
  unfold yAt
  rw [if_neg (fun q => q.elim hp hy), if_neg hz]
  by_cases q : fstN (yHk X (xSize X) p y) (xn X) < xn X
  · rw [if_pos q]
    have hy := fstN_yes _ _ q
    generalize hg : fstN (yHk X (xSize X) p y) (xn X) = t at *
    rcases ix_or h q p (xSize X) with ⟨i, i1, i2, i3, i4⟩ | e
    · refine Or.inl ⟨t, i, q, i1, i2, ?_, rfl, i4, i3⟩
      rw [i3, show (100 : Int32) = nI 100 from rfl, pk_mul, nI_add]
    · unfold yHk at hy
      rw [e] at hy
      simp at hy
  · rw [if_neg q]
    refine Or.inr ⟨rfl, fun t ht => ?_⟩
    exact fstN_no (yHk X (xSize X) p y) (xn X) t (by have := fstN_le (yHk X (xSize X) p y) (xn X); omega)
theorem hk_at {X : XS} {k : Nat} {z p y : Int32} {i : Nat} (hi : i < 16) (h1 : ¬ y < xRb X k z) (h2 : ¬ xRb X k z + 12 * z ≤ y) (h3 : xIx X k p z = nI i) : yHk X z p y k = true := by
  unfold yHk
  rw [h3, decide_eq_false h1, decide_eq_false h2, decide_eq_false (show ¬ nI i < 0 from nI_pos (by omega))]
  rfl
/-- the row of the law's points -/
def lY (X : XS) (k : Nat) : Int32 := xRb X k (xSize X) + 12 * xSize X - 1
theorem rb_in {X : XS} {f : Nat → Int32} (h : Rl X f) {k : Nat} (hk : k < xn X) {z : Int32} (hz : 0 ≤ z.toInt ∧ z.toInt ≤ 40) : 0 ≤ (xRb X k z).toInt ∧ (xRb X k z).toInt ≤ 9700 := by
  have hn := h.x.n20
  have e : xRb X k z = mTop f z k := by
    unfold xRb mTop
    rw [rRow h.S (by omega), h.S.1.2.2.1]
  rw [e]
  exact mTop_in h.S (by omega) hz
theorem size_1 {X : XS} {f : Nat → Int32} (h : Rl X f) (q : ¬ xSize X ≤ 0) : 1 ≤ (xSize X).toInt ∧ (xSize X).toInt ≤ 40 := by
  have := xSize_in h
  rw [Int32.le_iff_toInt_le, Int32.toInt_zero] at q
  omega
theorem lY_in {X : XS} {f : Nat → Int32} (h : Rl X f) {k : Nat} (hk : k < xn X) (hz : ¬ xSize X ≤ 0) : ¬ lY X k < 0 ∧ ¬ lY X k < xRb X k (xSize X) ∧ ¬ xRb X k (xSize X) + 12 * xSize X ≤ lY X k := by
  have z1 := size_1 h hz
  have b1 := rb_in h hk (z := xSize X) (by omega)
  have e12 : (12 * xSize X).toInt = 12 * (xSize X).toInt := by rw [Int32.toInt_mul, show (12 : Int32).toInt = 12 by decide, Int.bmod_eq_of_le (by omega) (by omega)]
  have e1 : (xRb X k (xSize X) + 12 * xSize X).toInt = (xRb X k (xSize X)).toInt + 12 * (xSize X).toInt := by rw [ti_add (by omega), e12]
  have e2 : (lY X k).toInt = (xRb X k (xSize X)).toInt + 12 * (xSize X).toInt - 1 := by
    unfold lY
    rw [ti_sub (by rw [e1, show (1 : Int32).toInt = 1 by decide]; omega), e1, show (1 : Int32).toInt = 1 by decide]
  rw [Int32.lt_iff_toInt_lt, Int32.lt_iff_toInt_lt, Int32.le_iff_toInt_le, e1, e2, Int32.toInt_zero]
  omega
/-- a point of sign x of name k: the sign told is k's or an earlier name's -/
theorem pt_in {X : XS} {f : Nat → Int32} (h : Rl X f) {k x : Nat} (hk : k < xn X) (hx : x < xl X k) (hz : ¬ xSize X ≤ 0) {p : Int32} (q : xHt X k p (xSize X) x = true) : ∃ t i, t ≤ k ∧ i < 16 ∧ yAt X p (lY X k) = nI (100 * t + i) ∧ (t = k → i = x) := by
  have hn := h.x.n20
  have hl16 := h.x.l16 (show k < 20 by omega)
  have z1 := size_1 h hz
  have z0 : ¬ xSize X = 0 := fun e => hz (by rw [e]; exact Int32.le_refl _)
  obtain ⟨y0, y1, y2⟩ := lY_in h hk hz
  have hfr := fr_in h hk (z := xSize X) (by omega) hx
  have q2 := ht_i.mp q
  have p0 : ¬ p < 0 := by
    rw [Int32.lt_iff_toInt_lt, Int32.toInt_zero]
    omega
  have hix := ix_is h hk hx z1 q
  have hyk := hk_at (y := lY X k) (show x < 16 by omega) y1 y2 hix
  rcases at_or h p0 y0 z0 with ⟨t, i, t1, i1, i2, e1, e2, e3, e4⟩ | ⟨-, e2⟩
  · refine ⟨t, i, ?_, i1, e1, fun tk => ?_⟩
    · rcases Nat.lt_or_ge k t with w | w
      · have := fstN_no (yHk X (xSize X) p (lY X k)) (xn X) k (by rw [e2]; exact w)
        rw [hyk] at this
        cases this
      · exact w
    · subst tk
      rw [hix] at e4
      exact ((nI_eq (by omega) (by omega)).mp e4).symm
  · rw [e2 k hk] at hyk
    cases hyk
theorem pt_from {X : XS} {f : Nat → Int32} (h : Rl X f) {k x : Nat} (hk : k < xn X) (hx : x < xl X k) (hz : ¬ xSize X ≤ 0) : xHt X k (xFr X k (xSize X) x) (xSize X) x = true ∧ xHt X k (xFr X k (xSize X) x + xSize X * xW (xSg X k x) - 1) (xSize X) x = true ∧ xHt X k (xFr X k (xSize X) x + xSize X * xW (xSg X k x)) (xSize X) x = false ∧ ¬ xFr X k (xSize X) x + xSize X * xW (xSg X k x) < 0 := by
  have z1 := size_1 h hz
  have hfr := fr_in h hk (z := xSize X) (by omega) hx
  have hw := wz_in h hk hx z1
  rw [Int32.mul_comm (xSize X)]
  have e1 : (xFr X k (xSize X) x + xW (xSg X k x) * xSize X).toInt = (xFr X k (xSize X) x).toInt + (xW (xSg X k x) * xSize X).toInt := ti_add (by omega)
  have e2 : (xFr X k (xSize X) x + xW (xSg X k x) * xSize X - 1).toInt = (xFr X k (xSize X) x).toInt + (xW (xSg X k x) * xSize X).toInt - 1 := by
    rw [ti_sub (by rw [e1, show (1 : Int32).toInt = 1 by decide]; omega), e1, show (1 : Int32).toInt = 1 by decide]
  refine ⟨ht_i.mpr ?_, ht_i.mpr ?_, ?_, ?_⟩
  · rw [e1]; omega
  · rw [e2, e1]; omega
  · rw [Bool.eq_false_iff]
    intro y
    have := (ht_i.mp y).2
    omega
  · rw [Int32.lt_iff_toInt_lt, e1, Int32.toInt_zero]
    omega
theorem pt_end {X : XS} {f : Nat → Int32} (h : Rl X f) {k x : Nat} (hk : k < xn X) (hx : x < xl X k) (hz : ¬ xSize X ≤ 0) {p : Int32} (hp : ¬ p < 0) (q : xHt X k p (xSize X) x = false) : ¬ yAt X p (lY X k) = nI (100 * k + x) := by
  have hn := h.x.n20
  have hl16 := h.x.l16 (show k < 20 by omega)
  have z0 : ¬ xSize X = 0 := fun e => hz (by rw [e]; exact Int32.le_refl _)
  obtain ⟨y0, -, -⟩ := lY_in h hk hz
  intro e
  rcases at_or h hp y0 z0 with ⟨t, i, t1, i1, i2, e1, e2, e3, e4⟩ | ⟨e2, -⟩
  · rw [e1, nI_eq (by omega) (by omega)] at e
    have tk : t = k := by omega
    have ix : i = x := by omega
    rw [tk, ix, q] at e3
    cases e3
  · rw [e2] at e
    exact nI_neg (n := 100 * k + x) (by omega) (show (-1005 : Int32).toInt < 0 by decide) e.symm
theorem d100 {t i : Nat} (ht : t < 20) (hi : i < 16) : nI (100 * t + i) / 100 = nI t := by
  apply Int32.toInt_inj.mp
  rw [div_ti (by decide), show (100 : Int32).toInt = 100 by decide, nI_toInt (by omega), nI_toInt (by omega), Int.tdiv_eq_ediv_of_nonneg (by omega)]
  omega
def lYz (X : XS) (k : Nat) : Int32 := if xSize X = 0 then 0 else lY X k
theorem at_0 {X : XS} {f : Nat → Int32} (h : Rl X f) (q : ¬ 0 < xSize X) : yAt X 30 30 = -1005 := by
  have e : xSize X = 0 := by
    have := xSize_in h
    rw [Int32.lt_iff_toInt_lt, Int32.toInt_zero] at q
    apply Int32.toInt_inj.mp
    rw [Int32.toInt_zero]
    omega
  unfold yAt
  rw [if_neg (by decide), if_pos e]
