/-! ===== what the model's reads answer ===== -/
def mCw (f : Nat → Int32) (w : Int32) : Int32 := (w - 2 * f 2) / f 3
def mCol (f : Nat → Int32) : Int32 := mCw f (f 0)
def mRows (f : Nat → Int32) (n : Int32) : Int32 := (n + f 3 - 1) / f 3
def mRow (f : Nat → Int32) (k : Nat) : Int32 := nI k / f 3
def mFt (f : Nat → Int32) (most rows w h s : Int32) : Bool := !(decide (mCw f w < most * s)) && !(decide (h - 2 * f 2 < 12 * s * rows))
def mGrN (f : Nat → Int32) (most rows w h : Int32) : Nat → Int32
  | 0 => 0
  | i + 1 => if mFt f most rows w h (nI (i + 1)) = true ∨ rows = 0 then nI (i + 1) else mGrN f most rows w h i
def mGr (f : Nat → Int32) (most rows w h : Int32) : Int32 := mGrN f most rows w h 40
def mIts (f : Nat → Int32) (wo : Int32) (k : Nat) : Int32 := if nI k = wo then 0 else mU f k
def mMostN (f : Nat → Int32) (wo : Int32) : Nat → Int32
  | 0 => 0
  | i + 1 => if mIts f wo i ≤ mMostN f wo i then mMostN f wo i else mIts f wo i
def mMost (f : Nat → Int32) (wo : Int32) : Int32 := mMostN f wo (mn f)
def mFree (f : Nat → Int32) (w h : Int32) : Int32 := mGr f (mMost f (-1005)) (mRows f (nI (mn f))) w h
def mSize (f : Nat → Int32) : Int32 := if mEs f ≤ 0 then mFree f (f 0) (f 1) else f 5
def mCb (f : Nat → Int32) (k : Nat) : Int32 := f 2 + irem (nI k) (f 3) * mCol f
def mFits (f : Nat → Int32) (k : Nat) (z : Int32) : Bool := !(decide (z ≤ 0)) && (!(decide (mCol f < mU f k * z)) && !(decide (f 1 - 2 * f 2 < 12 * z * (mRow f k + 1))))
def mDown (u d : Int32) : Int32 := if u / d * d ≤ u then u / d else u / d - 1
def mMt (f : Nat → Int32) (k j : Nat) : Int32 := mI (mSg f k j) * (2 * mUt f k j + mW (mSg f k j))
def mMom (f : Nat → Int32) (k : Nat) : Int32 := sumI (mMt f k) (ml f k)
def clampI (is last first : Int32) : Int32 := if first ≤ (if is ≤ last then is else last) then (if is ≤ last then is else last) else first
def mBeg (f : Nat → Int32) (k : Nat) (z : Int32) : Int32 := clampI (mDown (mInk f k * (2 * mCb f k + mCol f) - z * mMom f k) (2 * mInk f k)) (mCb f k + mCol f - mU f k * z) (mCb f k)
def mMid (f : Nat → Int32) (k : Nat) (z : Int32) : Int32 := if mCb f k ≤ mCb f k + mDown (mCol f - mU f k * z) 2 then mCb f k + mDown (mCol f - mU f k * z) 2 else mCb f k
def mNo (f : Nat → Int32) (seat : Int32) : Bool := !(inR seat 0 (nI (mn f) - 1))
def mCq (f : Nat → Int32) (a b : Int32) (k j : Nat) : Bool := decide (mSg f k j = a) && decide (mSg f k (j + 1) = b)
def mCk (f : Nat → Int32) (a b : Int32) (k : Nat) : Bool := decide (mE f k = 1) && decide (fstN (mCq f a b k) (ml f k - 1) < ml f k - 1)
def mCut (f : Nat → Int32) (a b : Int32) : Bool := decide (fstN (mCk f a b) (mn f) < mn f)
def mOk (c : Int32) : Bool := mL c || mPt c
theorem inR_of {v : Int32} {b : Nat} (hb : b < 2147483648) (h : inR v 0 (nI b) = true) : ∃ j, j ≤ b ∧ v = nI j := by
  unfold inR at h
  simp only [Bool.and_eq_true, Bool.not_eq_true', decide_eq_false_iff_not] at h
  obtain ⟨j, hj, rfl⟩ := nI_of h.1
  refine ⟨j, ?_, rfl⟩
  rw [nI_ltI hb hj] at h
  omega
theorem inR_in {j b : Nat} (hb : b < 2147483648) (h : j ≤ b) : inR (nI j) 0 (nI b) = true := by
  unfold inR
  simp only [Bool.and_eq_true, Bool.not_eq_true', decide_eq_false_iff_not]
  exact ⟨nI_pos (by omega), fun q => by rw [nI_ltI hb (by omega)] at q; omega⟩
theorem inR_m1 {v : Int32} : inR v 0 (nI 0 - 1) = false := by
  unfold inR
  rcases Classical.em (v < 0) with h | h
  · simp [h]
  · obtain ⟨j, hj, rfl⟩ := nI_of h
    have : nI 0 - 1 < nI j := by
      rw [Int32.lt_iff_toInt_lt, nI_toInt hj, show (nI 0 - 1 : Int32).toInt = -1 by decide]
      omega
    simp [this]
theorem mNo_no {f : Nat → Int32} (h20 : mn f ≤ 20) {seat : Int32} (h : mNo f seat = false) : ∃ k, k < mn f ∧ seat = nI k := by
  unfold mNo at h
  simp only [Bool.not_eq_false'] at h
  rcases Nat.eq_zero_or_pos (mn f) with q | q
  · rw [q, inR_m1] at h
    cases h
  · rw [show (1 : Int32) = nI 1 from rfl, pk_sub q] at h
    obtain ⟨j, h1, h2⟩ := inR_of (by omega) h
    exact ⟨j, by omega, h2⟩
theorem mNo_in {f : Nat → Int32} (h20 : mn f ≤ 20) {k : Nat} (h : k < mn f) : mNo f (nI k) = false := by
  unfold mNo
  rw [show (1 : Int32) = nI 1 from rfl, pk_sub (by omega), inR_in (by omega) (by omega)]
  rfl
theorem mI_in (c : Int32) : 1 ≤ (mI c).toInt ∧ (mI c).toInt ≤ 5 := by
  unfold mI
  split
  · rename_i h
    unfold mL at h
    have h2 : ∃ j : Nat, j < 26 ∧ c - 65 = nI j := by
      unfold inR at h
      simp only [Bool.and_eq_true, Bool.not_eq_true', decide_eq_false_iff_not, Int32.lt_iff_toInt_lt] at h
      have e1 : (65 : Int32).toInt = 65 := by decide
      have e2 : (90 : Int32).toInt = 90 := by decide
      rw [e1, e2] at h
      refine ⟨(c.toInt - 65).toNat, by omega, ?_⟩
      apply Int32.toInt_inj.mp
      rw [nI_toInt (by omega), Int32.toInt_sub, e1, Int.bmod_eq_of_le (by omega) (by omega)]
      omega
    obtain ⟨j, hj, e⟩ := h2
    rw [e]
    have : ∀ j : Nat, j < 26 → 1 ≤ (1 + irem (nI j * 3) 5).toInt ∧ (1 + irem (nI j * 3) 5).toInt ≤ 5 := by decide +kernel
    exact this j hj
  · split <;> decide
theorem sumI_in {g : Nat → Int32} {a b : Nat} (hab : a ≤ b) (hb : b ≤ 1000) : ∀ {n : Nat}, n ≤ 1000 → (∀ j, j < n → (a : Int) ≤ (g j).toInt ∧ (g j).toInt ≤ b) → (n : Int) * a ≤ (sumI g n).toInt ∧ (sumI g n).toInt ≤ (n : Int) * b
  | 0, _, _ => by constructor <;> simp [sumI]
  | n + 1, hn, h => by
    obtain ⟨h1, h2⟩ := sumI_in hab hb (by omega) (fun j hj => h j (Nat.lt_succ_of_lt hj))
    obtain ⟨h3, h4⟩ := h n (Nat.lt_succ_self n)
    have hb2 : (n : Int) * b ≤ 1000 * 1000 := Int.mul_le_mul (by omega) (by omega) (by omega) (by omega)
    have ha2 : (0 : Int) ≤ (n : Int) * a := Int.mul_nonneg (by omega) (by omega)
    show _ ≤ (sumI g n + g n).toInt ∧ (sumI g n + g n).toInt ≤ _
    rw [Int32.toInt_add, Int.bmod_eq_of_le (by omega) (by omega)]
    have e1 : ((n + 1 : Nat) : Int) * a = (n : Int) * a + a := by rw [Int.natCast_add, Int.add_mul]; simp
    have e2 : ((n + 1 : Nat) : Int) * b = (n : Int) * b + b := by rw [Int.natCast_add, Int.add_mul]; simp
    omega
theorem mInk_in {f : Nat → Int32} (hok : okM f) {k : Nat} (hk : k < mn f) : 1 ≤ (mInk f k).toInt ∧ (mInk f k).toInt ≤ 80 := by
  have h1 := hok.l1 hk
  have h16 := hok.l16 hk
  obtain ⟨h2, h3⟩ := sumI_in (g := fun j => mI (mSg f k j)) (a := 1) (b := 5) (n := ml f k) (by omega) (by omega) (by omega) (fun j _ => mI_in _)
  unfold mInk
  omega
theorem mInk_ne {f : Nat → Int32} (hok : okM f) {k : Nat} (hk : k < mn f) : ¬ 2 * mInk f k = 0 := by
  obtain ⟨h1, h2⟩ := mInk_in hok hk
  intro q
  have q2 := congrArg Int32.toInt q
  rw [Int32.toInt_mul, show (2 : Int32).toInt = 2 by decide, Int.bmod_eq_of_le (by omega) (by omega), show (0 : Int32).toInt = 0 by decide] at q2
  omega
