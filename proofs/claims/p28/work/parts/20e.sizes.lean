/-! ===== sizes and begins are equal ===== -/
theorem mMost0 (f : Nat → Int32) (wo : Int32) : ∀ i, 0 ≤ mMostN f wo i
  | 0 => Int32.le_refl _
  | i + 1 => by
    have ih := mMost0 f wo i
    unfold mMostN
    split
    · exact ih
    · rename_i h
      exact Int32.le_trans ih (Int32.le_of_lt (Int32.not_le.mp h))
theorem rMostN {X : XS} {f : Nat → Int32} (h : Rl X f) {lo wo : Int32} (hw : ∀ k, k < xn X → (nI k = lo ↔ nI k = wo)) : ∀ {i : Nat}, i ≤ xn X → xMostN X lo i = mMostN f wo i
  | 0, _ => rfl
  | i + 1, hi => by
    have ih := rMostN h hw (show i ≤ xn X by omega)
    have hwi := hw i (by omega)
    unfold xMostN mMostN mIts
    rw [ih]
    by_cases q : nI i = lo
    · rw [if_pos q, if_pos (hwi.mp q), if_pos (mMost0 f wo i)]
    · rw [if_neg q, if_neg (fun z => q (hwi.mpr z)), rU h (show i < xn X by omega)]
      unfold imax
      by_cases z : mMostN f wo i < mU f i
      · rw [if_pos z, if_neg (Int32.not_le.mpr z)]
      · rw [if_neg z, if_pos (Int32.not_lt.mp z)]
theorem nI_neg {n : Nat} (hn : n < 2147483648) {v : Int32} (hv : v.toInt < 0) : ¬ nI n = v := by
  intro q
  rw [← q, nI_toInt hn] at hv
  omega
theorem rMost {X : XS} {f : Nat → Int32} (h : Rl X f) : xMost X (-1) = mMost f (-1005) := by
  have hn := h.x.n20
  unfold xMost mMost
  rw [← h.n]
  exact rMostN h (fun k hk => ⟨fun q => absurd q (nI_neg (by omega) (by decide)), fun q => absurd q (nI_neg (by omega) (by decide))⟩) (Nat.le_refl _)
theorem rMostW {X : XS} {f : Nat → Int32} (h : Rl X f) (s : Int32) : xMost X s = mMost f s := by
  unfold xMost mMost
  rw [← h.n]
  exact rMostN h (fun k _ => Iff.rfl) (Nat.le_refl _)
theorem rows_ti {X : XS} {f : Nat → Int32} (h : rS X f) {n : Int32} (hn : 0 ≤ n.toInt ∧ n.toInt ≤ 1000) : (mRows f n).toInt = (n.toInt + (f 3).toInt - 1).tdiv (f 3).toInt := by
  have b3 := h.2.2.2.2
  unfold mRows
  rw [div_ti (by omega), Int32.toInt_sub, Int32.toInt_add, show (1 : Int32).toInt = 1 by decide, Int.bmod_eq_of_le (n := n.toInt + (f 3).toInt) (by omega) (by omega), Int.bmod_eq_of_le (by omega) (by omega)]
theorem rows_0 {X : XS} {f : Nat → Int32} (h : rS X f) {n : Int32} (hn : 0 ≤ n.toInt ∧ n.toInt ≤ 1000) : mRows f n = 0 ↔ n = 0 := by
  have b3 := h.2.2.2.2
  have e := rows_ti h hn
  rw [Int.tdiv_eq_ediv_of_nonneg (by omega)] at e
  constructor
  · intro q
    rw [q, Int32.toInt_zero] at e
    apply Int32.toInt_inj.mp
    rw [Int32.toInt_zero]
    rcases (show (f 3).toInt = 1 ∨ (f 3).toInt = 2 ∨ (f 3).toInt = 3 by omega) with z | z | z <;> rw [z] at e <;> omega
  · intro q
    apply Int32.toInt_inj.mp
    rw [q, Int32.toInt_zero] at e
    rw [q, Int32.toInt_zero]
    rcases (show (f 3).toInt = 1 ∨ (f 3).toInt = 2 ∨ (f 3).toInt = 3 by omega) with z | z | z <;> rw [z] at e <;> omega
theorem rFt {X : XS} {f : Nat → Int32} (h : rS X f) {w hh n uw : Int32} (hw : 300 ≤ w.toInt ∧ w.toInt ≤ 6000) (hn : 0 ≤ n.toInt ∧ n.toInt ≤ 1000) (s : Int32) : xFt X w hh n uw s = mFt f uw (mRows f n) w hh s := by
  unfold xFt mFt
  rw [rCw h hw, rRows h hn, h.1.2.2.1, show 12 * mRows f n * s = 12 * s * mRows f n by rw [Int32.mul_assoc, Int32.mul_comm (mRows f n) s, ← Int32.mul_assoc]]
theorem rGrN {X : XS} {f : Nat → Int32} (h : rS X f) {w hh n uw : Int32} (hw : 300 ≤ w.toInt ∧ w.toInt ≤ 6000) (hn : 0 ≤ n.toInt ∧ n.toInt ≤ 1000) (h0 : ¬ n = 0) : ∀ i, xGrN X w hh n uw i = mGrN f uw (mRows f n) w hh i
  | 0 => rfl
  | i + 1 => by
    unfold xGrN mGrN
    rw [rFt h hw hn, rGrN h hw hn h0 i]
    by_cases q : mFt f uw (mRows f n) w hh (nI (i + 1)) = true
    · rw [if_pos q, if_pos (Or.inl q)]
    · rw [if_neg q, if_neg (fun z => z.elim q (fun z => h0 ((rows_0 h hn).mp z)))]
theorem rGr {X : XS} {f : Nat → Int32} (h : rS X f) {w hh n uw : Int32} (hw : 300 ≤ w.toInt ∧ w.toInt ≤ 6000) (hn : 0 ≤ n.toInt ∧ n.toInt ≤ 1000) : xGr X w hh n uw = mGr f uw (mRows f n) w hh := by
  unfold xGr mGr
  by_cases h0 : n = 0
  · rw [if_pos h0]
    show (40 : Int32) = if mFt f uw (mRows f n) w hh (nI (39 + 1)) = true ∨ mRows f n = 0 then nI (39 + 1) else mGrN f uw (mRows f n) w hh 39
    rw [if_pos (Or.inr ((rows_0 h hn).mpr h0))]
    rfl
  · rw [if_neg h0]
    exact rGrN h hw hn h0 40
/-! what is engraved -/
theorem rEsN {X : XS} {f : Nat → Int32} (h : rE X f) : ∀ {i : Nat}, i ≤ xn X → sumI (mE f) i = nI (bitS (xE X) i)
  | 0, _ => rfl
  | i + 1, hi => by
    show sumI (mE f) i + mE f i = nI (bitS (xE X) i + _)
    rw [rEsN h (by omega), h.2.2.1 i (by omega), ← nI_add]
    congr 1
    cases (xE X).testBit i <;> rfl
theorem bitS_hi {e n : Nat} (h : e < 2 ^ n) : ∀ {d : Nat}, bitS e (n + d) = bitS e n
  | 0 => rfl
  | d + 1 => by
    show bitS e (n + d) + (if e.testBit (n + d) = true then 1 else 0) = _
    rw [bitS_hi h, Nat.testBit_lt_two_pow (Nat.lt_of_lt_of_le h (Nat.pow_le_pow_right (by decide) (Nat.le_add_right n d)))]
    rfl
theorem bitS_le (e : Nat) : ∀ n, bitS e n ≤ n
  | 0 => Nat.le_refl _
  | n + 1 => by
    have := bitS_le e n
    show bitS e n + _ ≤ n + 1
    split <;> omega
theorem bitS_z {e : Nat} : ∀ {n : Nat}, bitS e n = 0 → ∀ t, t < n → e.testBit t = false
  | 0, _, t, ht => absurd ht (Nat.not_lt_zero _)
  | n + 1, h, t, ht => by
    have h2 : bitS e n + (if e.testBit n = true then 1 else 0) = 0 := h
    rcases Nat.lt_or_ge t n with q | q
    · exact bitS_z (by omega) t q
    · have : t = n := by omega
      subst this
      cases hb : e.testBit t with
      | false => rfl
      | true => rw [hb, if_pos rfl] at h2; omega
theorem bitS_0 {e n : Nat} (h : e < 2 ^ n) (h0 : bitS e n = 0) : e = 0 := by
  apply Nat.eq_of_testBit_eq
  intro t
  rw [Nat.zero_testBit]
  rcases Nat.lt_or_ge t n with q | q
  · exact bitS_z h0 t q
  · exact Nat.testBit_lt_two_pow (Nat.lt_of_lt_of_le h (Nat.pow_le_pow_right (by decide) q))
theorem rEs {X : XS} {f : Nat → Int32} (h : Rl X f) : mEs f = nI (bitS (xE X) (xn X)) := by
  unfold mEs
  rw [← h.n]
  exact rEsN h.E (Nat.le_refl _)
theorem xE_lt {X : XS} {f : Nat → Int32} (h : Rl X f) : xE X < 1048576 := Nat.lt_of_lt_of_le h.E.2.1 (Nat.pow_le_pow_right (n := 2) (by decide) h.x.n20)
theorem rBc {X : XS} {f : Nat → Int32} (h : Rl X f) : bitc (X 5 6) = mEs f := by
  have hn := h.x.n20
  rw [h.E.1, bitc_pop (xE_lt h), rEs h]
  obtain ⟨d, hd⟩ : ∃ d, 20 = xn X + d := ⟨20 - xn X, by omega⟩
  rw [hd, bitS_hi h.E.2.1]
theorem rEng {X : XS} {f : Nat → Int32} (h : Rl X f) : (xEng X = true ↔ xE X ≠ 0) ∧ (mEs f ≤ 0 ↔ xE X = 0) := by
  have hn := h.x.n20
  have hlt := xE_lt h
  have hle := bitS_le (xE X) (xn X)
  refine ⟨?_, ?_⟩
  · unfold xEng
    rw [h.E.1, show (0 : Int32) = nI 0 from rfl, Bool.not_eq_true', decide_eq_false_iff_not, nI_eq (by omega) (by omega)]
  · rw [rEs h, show (0 : Int32) = nI 0 from rfl, nI_leI (by omega) (by omega)]
    constructor
    · intro q
      exact bitS_0 h.E.2.1 (by omega)
    · intro q
      rw [q]
      have : ∀ n, bitS 0 n = 0 := fun n => by
        induction n with
        | zero => rfl
        | succ n ih => show bitS 0 n + _ = 0; rw [ih, Nat.zero_testBit]; rfl
      rw [this]
      exact Nat.le_refl _
theorem rFree {X : XS} {f : Nat → Int32} (h : Rl X f) {w hh : Int32} (hw : 300 ≤ w.toInt ∧ w.toInt ≤ 6000) : xGr X w hh (nI (xn X)) (xMost X (-1)) = mFree f w hh := by
  have hn := h.x.n20
  unfold mFree
  rw [rMost h, ← h.n]
  exact rGr h.S hw (by rw [nI_toInt (by omega)]; omega)
theorem rSize {X : XS} {f : Nat → Int32} (h : Rl X f) : xSize X = mSize f := by
  unfold xSize mSize
  by_cases q : xE X = 0
  · rw [if_neg (fun z => (rEng h).1.mp z q), if_pos ((rEng h).2.mpr q), h.S.1.1, h.S.1.2.1]
    exact rFree h h.S.2.1
  · rw [if_pos ((rEng h).1.mpr q), if_neg (fun z => q ((rEng h).2.mp z))]
    exact (h.E.2.2.2 q).1
theorem rFits {X : XS} {f : Nat → Int32} (h : Rl X f) {k : Nat} (hk : k < xn X) (z : Int32) : xFits X k z = mFits f k z := by
  have hn := h.x.n20
  unfold xFits mFits
  rw [rCol h.S, rU h hk, rRow h.S (by omega), h.S.1.2.1, h.S.1.2.2.1]
theorem clamp_eq (is last first : Int32) : imax first (imin is last) = clampI is last first := by
  unfold imax imin clampI
  have e : (if last < is then last else is) = if is ≤ last then is else last := by
    by_cases q : last < is
    · rw [if_pos q, if_neg (Int32.not_le.mpr q)]
    · rw [if_neg q, if_pos (Int32.not_lt.mp q)]
  rw [e]
  generalize (if is ≤ last then is else last) = t
  by_cases q : first < t
  · rw [if_pos q, if_pos (Int32.le_of_lt q)]
  · rw [if_neg q]
    by_cases z : first ≤ t
    · rw [if_pos z]
      exact Int32.le_antisymm z (Int32.not_lt.mp q)
    · rw [if_neg z]
theorem ink2 {f : Nat → Int32} (hok : okM f) {k : Nat} (hk : k < mn f) : 0 < (2 * mInk f k).toInt := by
  obtain ⟨h1, h2⟩ := mInk_in hok hk
  rw [Int32.toInt_mul, show (2 : Int32).toInt = 2 by decide, Int.bmod_eq_of_le (by omega) (by omega)]
  omega
theorem rBeg {X : XS} {f : Nat → Int32} (h : Rl X f) {k : Nat} (hk : k < xn X) (z : Int32) : xBeg X k z = mBeg f k z := by
  have hm : k < mn f := by rw [← h.n]; exact hk
  unfold xBeg mBeg
  rw [rCb h.S, rCol h.S, rU h hk, rInk h hk, rMom h hk, xq_down (ink2 h.m hm), clamp_eq]
theorem rMid {X : XS} {f : Nat → Int32} (h : Rl X f) {k : Nat} (hk : k < xn X) (z : Int32) : xMid X k z = mMid f k z := by
  unfold xMid mMid imax
  rw [rCb h.S, rCol h.S, rU h hk, fdiv_down (by decide)]
  generalize mCb f k + mDown (mCol f - mU f k * z) 2 = t
  by_cases q : mCb f k < t
  · rw [if_pos q, if_pos (Int32.le_of_lt q)]
  · rw [if_neg q]
    by_cases z : mCb f k ≤ t
    · rw [if_pos z]
      exact Int32.le_antisymm z (Int32.not_lt.mp q)
    · rw [if_neg z]
