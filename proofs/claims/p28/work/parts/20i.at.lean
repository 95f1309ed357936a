/-! ===== the sign at a point ===== -/
theorem ti_mul {a b : Int32} {m n : Int} (ha : 0 ≤ a.toInt ∧ a.toInt ≤ m) (hb : 0 ≤ b.toInt ∧ b.toInt ≤ n) (hmn : m * n ≤ 2147483647) : 0 ≤ (a * b).toInt ∧ (a * b).toInt ≤ m * n := by
  have h1 : 0 ≤ a.toInt * b.toInt := Int.mul_nonneg ha.1 hb.1
  have h2 : a.toInt * b.toInt ≤ m * n := Int.mul_le_mul ha.2 hb.2 hb.1 (Int.le_trans ha.1 ha.2)
  rw [Int32.toInt_mul, Int.bmod_eq_of_le (by omega) (by omega)]
  exact ⟨h1, h2⟩
theorem ti_add {a b : Int32} (h : -2147483648 ≤ a.toInt + b.toInt ∧ a.toInt + b.toInt ≤ 2147483647) : (a + b).toInt = a.toInt + b.toInt := by
  rw [Int32.toInt_add, Int.bmod_eq_of_le (by omega) (by omega)]
theorem ti_sub {a b : Int32} (h : -2147483648 ≤ a.toInt - b.toInt ∧ a.toInt - b.toInt ≤ 2147483647) : (a - b).toInt = a.toInt - b.toInt := by
  rw [Int32.toInt_sub, Int.bmod_eq_of_le (by omega) (by omega)]
theorem pred_lt {a y : Int32} (h : 0 ≤ a.toInt) : a - 1 < y ↔ a ≤ y := by
  have hl := a.toInt_lt
  rw [Int32.lt_iff_toInt_lt, Int32.le_iff_toInt_le, ti_sub (by rw [show (1 : Int32).toInt = 1 by decide]; omega), show (1 : Int32).toInt = 1 by decide]
  omega
theorem inR_end {v a b : Int32} (h : 0 ≤ b.toInt) : inR v a (b - 1) = (!(decide (v < a)) && !(decide (b ≤ v))) := by
  unfold inR
  rw [decide_eq_decide.mpr (pred_lt h)]
theorem mGrN_in (f : Nat → Int32) (uw r w hh : Int32) : ∀ {i : Nat}, i ≤ 40 → 0 ≤ (mGrN f uw r w hh i).toInt ∧ (mGrN f uw r w hh i).toInt ≤ 40
  | 0, _ => by
    show 0 ≤ (0 : Int32).toInt ∧ (0 : Int32).toInt ≤ 40
    decide
  | i + 1, hi => by
    unfold mGrN
    split
    · rw [nI_toInt (by omega)]; omega
    · exact mGrN_in f uw r w hh (by omega)
theorem mSize_in {X : XS} {f : Nat → Int32} (h : Rl X f) : 0 ≤ (mSize f).toInt ∧ (mSize f).toInt ≤ 40 := by
  unfold mSize
  split
  · exact mGrN_in f _ _ _ _ (Nat.le_refl _)
  · rename_i q
    have := h.E.2.2.2 (fun z => q ((rEng h).2.mpr z))
    omega
theorem mCol_in {X : XS} {f : Nat → Int32} (h : rS X f) : 0 ≤ (mCol f).toInt ∧ (mCol f).toInt ≤ 6000 := by
  obtain ⟨-, b0, b1, b2, b3⟩ := h
  unfold mCol mCw
  have e := rw2m (w := f 0) (m := f 2) (by omega) b2
  rw [div_ti (by omega), e, Int.tdiv_eq_ediv_of_nonneg (by omega)]
  have h1 := Int.ediv_nonneg (a := (f 0).toInt - 2 * (f 2).toInt) (b := (f 3).toInt) (by omega) (by omega)
  have h2 := Int.ediv_le_self (a := (f 0).toInt - 2 * (f 2).toInt) (f 3).toInt (by omega)
  omega
theorem mRow_in {X : XS} {f : Nat → Int32} (h : rS X f) {k : Nat} (hk : k < 20) : 0 ≤ (mRow f k).toInt ∧ (mRow f k).toInt ≤ 20 := by
  have b3 := h.2.2.2.2
  unfold mRow
  rw [div_ti (by omega), nI_toInt (by omega), Int.tdiv_eq_ediv_of_nonneg (by omega)]
  have h1 := Int.ediv_nonneg (a := (k : Int)) (b := (f 3).toInt) (by omega) (by omega)
  have h2 := Int.ediv_le_self (a := (k : Int)) (f 3).toInt (by omega)
  omega
theorem mTop_in {X : XS} {f : Nat → Int32} (h : rS X f) {k : Nat} (hk : k < 20) {z : Int32} (hz : 0 ≤ z.toInt ∧ z.toInt ≤ 40) : 0 ≤ (mTop f z k).toInt ∧ (mTop f z k).toInt ≤ 9700 := by
  have b2 := h.2.2.2.1
  have h1 := ti_mul (a := 12) (m := 12) (by decide) hz (by decide)
  have h2 := ti_mul h1 (mRow_in h hk) (by decide)
  unfold mTop
  rw [ti_add (by omega)]
  omega
theorem rYin {X : XS} {f : Nat → Int32} (h : rS X f) {k : Nat} (hk : k < 20) {z : Int32} (hz : 0 ≤ z.toInt ∧ z.toInt ≤ 40) (y : Int32) : mYin f z y k = (!(decide (y < xRb X k z)) && !(decide (xRb X k z + 12 * z ≤ y))) := by
  have e : xRb X k z = mTop f z k := by
    unfold xRb mTop
    rw [rRow h (by omega), h.1.2.2.1]
  have h1 := ti_mul (a := 12) (m := 12) (by decide) hz (by decide)
  have h2 := mTop_in h hk hz
  unfold mYin
  rw [e]
  exact inR_end (by rw [ti_add (by omega)]; omega)
theorem irem_in {k : Nat} (hk : k < 20) {c : Int32} (hc : 1 ≤ c.toInt ∧ c.toInt ≤ 3) : 0 ≤ (irem (nI k) c).toInt ∧ (irem (nI k) c).toInt ≤ 2 := by
  obtain ⟨p, hp, rfl⟩ := toI_of (show 0 ≤ c.toInt by omega)
  rw [nI_toInt (by omega)] at hc
  rw [show irem (nI k) (nI p) = nI (k % p) from pk_rem (by omega) (by omega) (by omega), nI_toInt (by have := Nat.mod_lt k (show 0 < p by omega); omega)]
  have := Nat.mod_lt k (show 0 < p by omega)
  omega
theorem mCb_in {X : XS} {f : Nat → Int32} (h : rS X f) {k : Nat} (hk : k < 20) : 0 ≤ (mCb f k).toInt ∧ (mCb f k).toInt ≤ 12100 := by
  have b2 := h.2.2.2.1
  have h1 := ti_mul (irem_in hk h.2.2.2.2) (mCol_in h) (by decide)
  unfold mCb
  rw [ti_add (by omega)]
  omega
theorem clampI_in (is last first : Int32) : first.toInt ≤ (clampI is last first).toInt ∧ ((clampI is last first).toInt ≤ last.toInt ∨ clampI is last first = first) := by
  unfold clampI
  by_cases q : is ≤ last
  · rw [if_pos q]
    by_cases t : first ≤ is
    · rw [if_pos t]
      exact ⟨Int32.le_iff_toInt_le.mp t, Or.inl (Int32.le_iff_toInt_le.mp q)⟩
    · rw [if_neg t]
      exact ⟨Int.le_refl _, Or.inr rfl⟩
  · rw [if_neg q]
    by_cases t : first ≤ last
    · rw [if_pos t]
      exact ⟨Int32.le_iff_toInt_le.mp t, Or.inl (Int.le_refl _)⟩
    · rw [if_neg t]
      exact ⟨Int.le_refl _, Or.inr rfl⟩
theorem mBeg_in {X : XS} {f : Nat → Int32} (h : Rl X f) {k : Nat} (hk : k < xn X) {z : Int32} (hz : 0 ≤ z.toInt ∧ z.toInt ≤ 40) : 0 ≤ (mBeg f k z).toInt ∧ (mBeg f k z).toInt ≤ 18100 := by
  have hn := h.x.n20
  have hU := mU_in h hk
  have h1 := ti_mul (a := mU f k) (m := 288) (by omega) hz (by decide)
  have hb := mCb_in h.S (show k < 20 by omega)
  have hc := mCol_in h.S
  have e1 : (mCb f k + mCol f).toInt = (mCb f k).toInt + (mCol f).toInt := ti_add (by omega)
  have e2 : (mCb f k + mCol f - mU f k * z).toInt = (mCb f k).toInt + (mCol f).toInt - (mU f k * z).toInt := by rw [ti_sub (by omega), e1]
  unfold mBeg
  generalize mDown _ _ = is
  obtain ⟨a1, a2⟩ := clampI_in is (mCb f k + mCol f - mU f k * z) (mCb f k)
  rcases a2 with a2 | a2
  · omega
  · rw [a2]; omega
theorem mFrm_in {X : XS} {f : Nat → Int32} (h : Rl X f) {k : Nat} (hk : k < xn X) {z : Int32} (hz : 0 ≤ z.toInt ∧ z.toInt ≤ 40) {i : Nat} (hi : i ≤ 16) : 0 ≤ (mFrm f z k i).toInt ∧ (mFrm f z k i).toInt ≤ 30000 := by
  have hb := mBeg_in h hk hz
  have hu := mUt_in h.P k hi
  have h1 := ti_mul (n := 288) hz (b := mUt f k i) (by omega) (by decide)
  unfold mFrm
  rw [ti_add (by omega)]
  omega
theorem rFr {X : XS} {f : Nat → Int32} (h : Rl X f) {k : Nat} (hk : k < xn X) (z : Int32) : ∀ {i : Nat}, i < xl X k → xFr X k z i = mFrm f z k i
  | 0, _ => by
    show xBeg X k z = mBeg f k z + z * 0
    rw [rBeg h hk, Int32.mul_zero, Int32.add_zero]
  | i + 1, hi => by
    show xFr X k z i + xW (xSg X k i) * z + xSp X k i * z = mBeg f k z + z * (mUt f k i + mSt f k i)
    have e := rFr h hk z (show i < xl X k by omega)
    unfold mFrm at e
    rw [e, h.sg hk (show i < xl X k by omega), rW (h.sok hk (show i < xl X k by omega)), rSp h hk hi, Int32.mul_add, Int32.add_assoc, Int32.add_assoc]
    unfold mSt
    rw [Int32.mul_add, Int32.mul_comm z (mW _), Int32.mul_comm z (mSpace _ _ _)]
theorem rXin {X : XS} {f : Nat → Int32} (h : Rl X f) {k : Nat} (hk : k < xn X) {z : Int32} (hz : 0 ≤ z.toInt ∧ z.toInt ≤ 40) (x : Int32) {i : Nat} (hi : i < xl X k) : xHt X k x z i = mXin f z x k i := by
  have hl16 := h.x.l16 (show k < 20 by have := h.x.n20; omega)
  have hf := mFrm_in h hk hz (show i ≤ 16 by omega)
  have hw := mW_in (mSg f k i)
  have h1 := ti_mul (n := 9) hz (b := mW (mSg f k i)) (by omega) (by decide)
  unfold xHt mXin
  rw [rFr h hk z hi, h.sg hk hi, rW (h.sok hk hi), Int32.mul_comm (mW _) z, inR_end (by rw [ti_add (by omega)]; omega)]
theorem fst_and {p : Nat → Bool} {n : Nat} : fstN (fun i => true && p i) n = fstN p n := fstN_congr (fun _ _ => Bool.true_and _)
theorem fst_none {p : Nat → Bool} {n : Nat} : fstN (fun i => false && p i) n = n := fstN_eq (Nat.le_refl _) (fun _ _ => Bool.false_and _) (fun q => absurd q (Nat.lt_irrefl _))
theorem rIx {X : XS} {f : Nat → Int32} (h : Rl X f) {k : Nat} (hk : k < xn X) {z : Int32} (hz : 0 ≤ z.toInt ∧ z.toInt ≤ 40) (x : Int32) : xIx X k x z = if fstN (mXin f z x k) (ml f k) < ml f k then nI (fstN (mXin f z x k) (ml f k)) else (-1) := by
  have e : fstN (xHt X k x z) (xl X k) = fstN (mXin f z x k) (ml f k) := by
    rw [← h.l hk]
    exact fstN_congr (fun i hi => rXin h hk hz x hi)
  unfold xIx
  rw [e, h.l hk]
theorem mHt_t {f : Nat → Int32} {z x y : Int32} {k n : Nat} (q : mYin f z y k = true) : fstN (mHt f z x y k) n = fstN (mXin f z x k) n := by
  refine fstN_congr (fun i _ => ?_)
  unfold mHt
  rw [q]
  rfl
theorem mHt_f {f : Nat → Int32} {z x y : Int32} {k n : Nat} (q : mYin f z y k = false) : fstN (mHt f z x y k) n = n := by
  refine fstN_eq (Nat.le_refl _) (fun i _ => ?_) (fun t => absurd t (Nat.lt_irrefl _))
  unfold mHt
  rw [q]
  rfl
theorem rHk {X : XS} {f : Nat → Int32} (h : Rl X f) {k : Nat} (hk : k < xn X) {z : Int32} (hz : 0 ≤ z.toInt ∧ z.toInt ≤ 40) (x y : Int32) : yHk X z x y k = mHk f z x y k := by
  have hn := h.x.n20
  have hl16 := h.x.l16 (show k < 20 by omega)
  have e : yHk X z x y k = (mYin f z y k && !(decide (xIx X k x z < 0))) := by
    rw [rYin h.S (by omega) hz]
    unfold yHk
    rw [Bool.and_assoc]
  rw [e, rIx h hk hz]
  unfold mHk
  cases q : mYin f z y k with
  | false =>
    rw [mHt_f q, decide_eq_false (Nat.lt_irrefl _)]
    rfl
  | true =>
    rw [mHt_t q, Bool.true_and]
    by_cases t : fstN (mXin f z x k) (ml f k) < ml f k
    · rw [if_pos t, decide_eq_true t, decide_eq_false (nI_pos (by rw [h.l hk] at hl16; omega))]
      rfl
    · rw [if_neg t, decide_eq_false t]
      rfl
theorem rAt {X : XS} {f : Nat → Int32} (h : Rl X f) (x y : Int32) : yAt X x y = mAt f x y := by
  have hz := mSize_in h
  have hn := h.x.n20
  unfold yAt mAt
  rw [rSize h]
  by_cases q : x < 0 ∨ y < 0
  · rw [if_pos q, if_pos q]
  · rw [if_neg q, if_neg q]
    by_cases z0 : mSize f = 0
    · rw [if_pos z0, if_pos (by rw [z0]; exact Int32.le_refl _)]
    · have z1 : ¬ mSize f ≤ 0 := fun t => z0 (by
        rw [Int32.le_iff_toInt_le, Int32.toInt_zero] at t
        exact Int32.toInt_inj.mp (by rw [Int32.toInt_zero]; omega))
      rw [if_neg z0, if_neg z1]
      have e : fstN (yHk X (mSize f) x y) (xn X) = fstN (mHk f (mSize f) x y) (mn f) := by
        rw [← h.n]
        exact fstN_congr (fun k hk => rHk h hk hz x y)
      rw [e, h.n]
      by_cases t : fstN (mHk f (mSize f) x y) (mn f) < mn f
      · rw [if_pos t, if_pos t]
        have hy := fstN_yes (mHk f (mSize f) x y) (mn f) t
        generalize fstN (mHk f (mSize f) x y) (mn f) = K at t hy ⊢
        have hK : K < xn X := by rw [h.n]; exact t
        have hy2 : fstN (mHt f (mSize f) x y K) (ml f K) < ml f K := of_decide_eq_true hy
        cases w : mYin f (mSize f) y K with
        | false => rw [mHt_f w] at hy2; exact absurd hy2 (Nat.lt_irrefl _)
        | true =>
          rw [mHt_t w] at hy2 ⊢
          rw [rIx h hK hz, if_pos hy2]
          generalize fstN (mXin f (mSize f) x K) (ml f K) = j
          rw [← nI_add]
          congr 1
          exact (Int32.ofNat_mul 100 K).symm
      · rw [if_neg t, if_neg t]
