/-! ===== what the model's asked numbers are ===== -/
def mNameK (f : Nat → Int32) (k : Nat) (w : Int32) : Int32 := if mSize f = 0 ∧ (w = 5 ∨ w = 6 ∨ w = 8 ∨ w = 9) then (-1005) else if w = 0 then nI (ml f k) else if w = 1 then mU f k else if w = 2 then mE f k else if w = 3 then mRow f k else if w = 4 then irem (nI k) (f 3) else if w = 5 then mBeg f k (mSize f) else if w = 6 then f 2 + 12 * mSize f * mRow f k else if w = 7 then b2i (mFits f k (mSize f)) else if w = 8 then mU f k * mSize f else if w = 9 then mMid f k (mSize f) else if w = 10 then mInk f k else (-1002)
def mName (f : Nat → Int32) (seat w : Int32) : Int32 := if mNo f seat = true then (-1001) else mNameK f seat.toNatClampNeg w
def mSignJ (f : Nat → Int32) (k j : Nat) (w : Int32) : Int32 := if w = 3 ∨ w = 4 then (if j = ml f k - 1 then (-1005) else mSpace f (mSg f k j) (mSg f k (j + 1)) + (if w = 3 then 0 else mO (mSg f k j) + mO (mSg f k (j + 1)))) else if w = 0 then mSg f k j else if w = 1 then mUt f k j else if w = 2 then mW (mSg f k j) else if w = 5 then (if mSize f = 0 then (-1005) else mBeg f k (mSize f) + mSize f * mUt f k j) else (-1002)
def mSignK (f : Nat → Int32) (k : Nat) (index w : Int32) : Int32 := if inR index 0 (nI (ml f k - 1)) = false then (-1001) else mSignJ f k index.toNatClampNeg w
def mSign (f : Nat → Int32) (seat index w : Int32) : Int32 := if mNo f seat = true then (-1001) else mSignK f seat.toNatClampNeg index w
theorem inR34 {w : Int32} (h : inR w 3 4 = true) : w = 3 ∨ w = 4 := by
  unfold inR at h
  simp only [Bool.and_eq_true, Bool.not_eq_true', decide_eq_false_iff_not, Int32.lt_iff_toInt_lt] at h
  have e3 : (3 : Int32).toInt = 3 := by decide
  have e4 : (4 : Int32).toInt = 4 := by decide
  rw [e3, e4] at h
  rcases (show w.toInt = 3 ∨ w.toInt = 4 by omega) with q | q
  · exact Or.inl (Int32.toInt_inj.mp (q.trans e3.symm))
  · exact Or.inr (Int32.toInt_inj.mp (q.trans e4.symm))
theorem inR34n {w : Int32} (h : inR w 3 4 = false) : ¬ w = 3 ∧ ¬ w = 4 := ⟨fun q => by subst q; exact absurd h (by decide), fun q => by subst q; exact absurd h (by decide)⟩
def mSizeBy (f : Nat → Int32) (w h : Int32) : Int32 := if inR w 300 6000 = true ∧ inR h 100 3000 = true then mFree f w h else (-1002)
def mSizeWo (f : Nat → Int32) (seat : Int32) : Int32 := if mNo f seat = true then (-1001) else mGr f (mMost f seat) (mRows f (nI (mn f) - 1)) (f 0) (f 1)
def mLeastK (f : Nat → Int32) (z : Int32) : Int32 := mMost f (-1005) * z * f 3 + 2 * f 2
def mLeast (f : Nat → Int32) (z : Int32) : Int32 := if inR z 1 40 = false then (-1002) else if mn f = 0 then (-1005) else if 300 ≤ mLeastK f z then mLeastK f z else 300
def mB (f : Nat → Int32) : Nat → Nat
  | 0 => 0
  | i + 1 => if i = 0 then 0 else if mU f i ≤ mU f (mB f i) then mB f i else i
theorem mB_lt (f : Nat → Int32) : ∀ {i : Nat}, ¬ i = 0 → mB f i < i
  | 0, h => absurd rfl h
  | i + 1, _ => by
    unfold mB
    split
    · omega
    · rename_i h
      have := mB_lt f h
      split <;> omega
def mBestI (f : Nat → Int32) (i : Nat) : Int32 := if i = 0 then (-1005) else nI (mB f i)
def mPair (f : Nat → Int32) (place w : Int32) : Int32 := if place < 0 ∨ inR w 0 2 = false then (-1002) else if place < nI (mp f) then f (9 + 3 * place.toNatClampNeg + w.toNatClampNeg) else (-1005)
def mCount (M : XS) (w : Int32) : Int32 := if w = 0 then M 0 0 else if w = 1 then M 0 1 else if w = 2 then M 0 2 else if w = 3 then M 0 3 else if w = 4 then M 0 4 else if w = 5 then mEs (M 0) else if w = 6 then mRows (M 0) (M 0 4) else if w = 7 then M 0 6 else if w = 8 then M 0 7 else if w = 9 then M 0 8 else if w = 10 then M 4 0 else if w = 11 then M 4 2 else (-1002)
def mTop (f : Nat → Int32) (z : Int32) (k : Nat) : Int32 := f 2 + 12 * z * mRow f k
def mFrm (f : Nat → Int32) (z : Int32) (k i : Nat) : Int32 := mBeg f k z + z * mUt f k i
def mYin (f : Nat → Int32) (z y : Int32) (k : Nat) : Bool := inR y (mTop f z k) (mTop f z k + 12 * z - 1)
def mXin (f : Nat → Int32) (z x : Int32) (k i : Nat) : Bool := inR x (mFrm f z k i) (mFrm f z k i + z * mW (mSg f k i) - 1)
def mHt (f : Nat → Int32) (z x y : Int32) (k i : Nat) : Bool := mYin f z y k && mXin f z x k i
def mHk (f : Nat → Int32) (z x y : Int32) (k : Nat) : Bool := decide (fstN (mHt f z x y k) (ml f k) < ml f k)
def mAt (f : Nat → Int32) (x y : Int32) : Int32 := if x < 0 ∨ y < 0 then (-1002) else if mSize f ≤ 0 then (-1005) else if fstN (mHk f (mSize f) x y) (mn f) < mn f then nI (100 * fstN (mHk f (mSize f) x y) (mn f) + fstN (mHt f (mSize f) x y (fstN (mHk f (mSize f) x y) (mn f))) (ml f (fstN (mHk f (mSize f) x y) (mn f)))) else (-1005)
