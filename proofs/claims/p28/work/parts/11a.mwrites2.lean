/-! ===== what the model's other acts leave ===== -/
def swR (f : Nat → Int32) (a b t : Nat) : Nat → Int32 := fun q => if a ≤ q ∧ q < a + t then f (b + (q - a)) else if b ≤ q ∧ q < b + t then f (a + (q - b)) else f q
theorem swR_0 (f : Nat → Int32) (a b : Nat) : swR f a b 0 = f := by
  funext q
  unfold swR
  rw [if_neg (by omega), if_neg (by omega)]
theorem swR_a {f : Nat → Int32} {a b t : Nat} (hab : a + 18 ≤ b ∨ b + 18 ≤ a) (ht : t < 18) : swR f a b t (a + t) = f (a + t) := by
  unfold swR
  rw [if_neg (by omega), if_neg (by omega)]
theorem swR_b {f : Nat → Int32} {a b t : Nat} (hab : a + 18 ≤ b ∨ b + 18 ≤ a) (ht : t < 18) : swR f a b t (b + t) = f (b + t) := by
  unfold swR
  rw [if_neg (by omega), if_neg (by omega)]
theorem swR_step {f : Nat → Int32} {a b t : Nat} (hab : a + 18 ≤ b ∨ b + 18 ≤ a) (ht : t < 18) : swR f a b (t + 1) = upd (upd (swR f a b t) (a + t) (swR f a b t (b + t))) (b + t) (swR f a b t (a + t)) := by
  funext q
  rw [swR_a hab ht, swR_b hab ht]
  unfold upd
  by_cases h1 : q = b + t
  · rw [if_pos h1]
    subst h1
    unfold swR
    rw [if_neg (by omega), if_pos (by omega)]
    congr 1
    omega
  · rw [if_neg h1]
    by_cases h2 : q = a + t
    · rw [if_pos h2]
      subst h2
      unfold swR
      rw [if_pos (by omega)]
      congr 1
      omega
    · rw [if_neg h2]
      unfold swR
      by_cases h3 : a ≤ q ∧ q < a + t
      · rw [if_pos h3, if_pos (by omega)]
      · rw [if_neg h3, if_neg (by omega)]
        by_cases h4 : b ≤ q ∧ q < b + t
        · rw [if_pos h4, if_pos (by omega)]
        · rw [if_neg h4, if_neg (by omega)]
theorem okM_of {f f2 : Nat → Int32} (hok : okM f) (h4 : f2 4 = f 4) (h8 : f2 8 = f 8) (h3 : f2 3 = f 3) (hl : ∀ k, k < mn f → ∃ k2, k2 < mn f ∧ f2 (57 + 18 * k) = f (57 + 18 * k2)) : okM f2 := by
  have e4 : mn f2 = mn f := by unfold mn; rw [h4]
  have e8 : mp f2 = mp f := by unfold mp; rw [h8]
  refine ⟨by rw [h4, e4]; exact hok.n, by rw [e4]; exact hok.n20, fun k hk => ?_, by rw [h8, e8]; exact hok.p, by rw [e8]; exact hok.p16, by rw [h3]; exact hok.c⟩
  rw [e4] at hk
  obtain ⟨k2, h1, h2⟩ := hl k hk
  have h16 := hok.l16 h1
  have el : ml f2 k = ml f k2 := by unfold ml; rw [h2]
  rw [el, h2]
  exact ⟨hok.l h1, hok.l1 h1, h16⟩
theorem okM_sw {f : Nat → Int32} (hok : okM f) {i j : Nat} (hi : i < mn f) (hj : j < mn f) : okM (swR f (57 + 18 * i) (57 + 18 * j) 18) := by
  have lo : ∀ q, q < 57 → swR f (57 + 18 * i) (57 + 18 * j) 18 q = f q := fun q hq => by
    unfold swR
    rw [if_neg (by omega), if_neg (by omega)]
  refine okM_of hok (lo _ (by decide)) (lo _ (by decide)) (lo _ (by decide)) (fun k hk => ?_)
  by_cases h1 : k = i
  · refine ⟨j, hj, ?_⟩
    unfold swR
    rw [if_pos (by omega)]
    congr 1
    omega
  · by_cases h2 : k = j
    · refine ⟨i, hi, ?_⟩
      unfold swR
      rw [if_neg (by omega), if_pos (by omega)]
      congr 1
      omega
    · refine ⟨k, hk, ?_⟩
      unfold swR
      rw [if_neg (by omega), if_neg (by omega)]
theorem mEg_ne {f : Nat → Int32} {k : Nat} {z : Int32} {q : Nat} (h1 : q ≠ 57 + 18 * k + 1) (h2 : q ≠ 5) : mEg f k z q = f q := by
  unfold mEg upd
  rw [if_neg h2, if_neg h1]
theorem mn_eg (f : Nat → Int32) (k : Nat) (z : Int32) : mn (mEg f k z) = mn f := by
  unfold mn
  rw [mEg_ne (by omega) (by omega)]
theorem mn_egl {f : Nat → Int32} {k j : Nat} {z : Int32} (h : j < mn f) : j < mn (mEg f k z) := by rw [mn_eg]; exact h
theorem okM_eg {f : Nat → Int32} (hok : okM f) (k : Nat) (z : Int32) : okM (mEg f k z) := okM_of hok (mEg_ne (by omega) (by omega)) (mEg_ne (by omega) (by omega)) (mEg_ne (by omega) (by omega)) (fun j hj => ⟨j, hj, mEg_ne (by omega) (by omega)⟩)
def mEc (f : Nat → Int32) (z : Int32) : Nat → Nat
  | 0 => 0
  | i + 1 => mEc f z i + (if decide (mE f i = 1) = false ∧ mFits f i z = true then 1 else 0)
theorem mEc_le (f : Nat → Int32) (z : Int32) : ∀ i, mEc f z i ≤ i
  | 0 => Nat.le_refl _
  | i + 1 => by
    have := mEc_le f z i
    unfold mEc
    split <;> omega
def mEa (f : Nat → Int32) (z : Int32) : Nat → (Nat → Int32)
  | 0 => f
  | t + 1 => if decide (mE (mEa f z t) t = 1) = false ∧ mFits (mEa f z t) t z = true then mEg (mEa f z t) t z else mEa f z t
theorem mn_ea (f : Nat → Int32) (z : Int32) : ∀ t, mn (mEa f z t) = mn f
  | 0 => rfl
  | t + 1 => by
    unfold mEa
    split
    · rw [mn_eg]; exact mn_ea f z t
    · exact mn_ea f z t
theorem okM_ea {f : Nat → Int32} (hok : okM f) (z : Int32) : ∀ t, okM (mEa f z t)
  | 0 => hok
  | t + 1 => by
    unfold mEa
    split
    · exact okM_eg (okM_ea hok z t) _ _
    · exact okM_ea hok z t
def mEf (f : Nat → Int32) (k : Nat) : Bool := decide (fstN (fun t => decide (mE f (k + t) = 1)) (mn f - k) < mn f - k)
def mRemK (M : XS) (k : Nat) : mR := if mEf (M 0) k = true then ((-1004), M) else (nI (mn (M 0) - 1), va_up (mRec M) 0 (mvN (upd (M 0) 4 (nI (mn (M 0) - 1))) 18 (57 + 18 * k) (18 * (mn (M 0) - 1 - k))))
def mRemove (M : XS) (seat : Int32) : mR := if mNo (M 0) seat = true then ((-1001), M) else mRemK M seat.toNatClampNeg
def mSwapK (M : XS) (i j : Nat) : mR := if decide (mE (M 0) i = 1) = true ∨ decide (mE (M 0) j = 1) = true then ((-1004), M) else if i = j then ((-1005), M) else (mSize (swR (M 0) (57 + 18 * i) (57 + 18 * j) 18), va_up (mRec M) 0 (swR (M 0) (57 + 18 * i) (57 + 18 * j) 18))
def mSwap (M : XS) (seat other : Int32) : mR := if mNo (M 0) seat = true ∨ mNo (M 0) other = true then ((-1001), M) else mSwapK M seat.toNatClampNeg other.toNatClampNeg
def mEngK (M : XS) (k : Nat) : mR := if mFits (M 0) k (mSize (M 0)) = false then ((-1004), M) else if decide (mE (M 0) k = 1) = true then ((-1005), M) else (mBeg (mEg (M 0) k (mSize (M 0))) k (mSize (M 0)), va_up (mRec M) 0 (mEg (M 0) k (mSize (M 0))))
def mEng (M : XS) (seat : Int32) : mR := if mNo (M 0) seat = true then ((-1001), M) else mEngK M seat.toNatClampNeg
def mEngA (M : XS) : mR := if mEc (M 0) (mSize (M 0)) (mn (M 0)) = 0 then ((-1005), M) else (nI (mEc (M 0) (mSize (M 0)) (mn (M 0))), va_up (mRec M) 0 (mEa (M 0) (mSize (M 0)) (mn (M 0))))
theorem mAdj_in {f : Nat → Int32} {a b : Int32} (h : ¬ mAdj f a b = 0) : mPl f a b < mp f := by
  unfold mAdj at h
  split at h
  · assumption
  · exact absurd rfl h
def mPut (f : Nat → Int32) (a b v : Int32) : Nat → Int32 := if v = 0 then mvN (upd f 8 (nI (mp f - 1))) 3 (9 + 3 * mPl f a b) (3 * (mp f - 1 - mPl f a b)) else if mAdj f a b = 0 then upd (upd (upd (upd f 8 (nI (mp f + 1))) (9 + 3 * mp f) a) (9 + 3 * mp f + 1) b) (9 + 3 * mp f + 2) v else upd (upd (upd (upd f 8 (nI (mp f + 0))) (9 + 3 * mPl f a b) a) (9 + 3 * mPl f a b + 1) b) (9 + 3 * mPl f a b + 2) v
def mAdjT (M : XS) (a b v : Int32) : mR := if (mOk a && mOk b) = false then ((-1001), M) else if inR v (-3) 3 = false then ((-1002), M) else if mCut (M 0) a b = true then ((-1004), M) else if mAdj (M 0) a b = v then ((-1005), M) else if mAdj (M 0) a b = 0 ∧ mp (M 0) = 16 then ((-1003), M) else (mAdj (M 0) a b, va_up (mRec M) 0 (mPut (M 0) a b v))
/-- the names of the text, laid behind the row's names -/
def mCe (M : XS) : Nat → Nat
  | 0 => 57 + 18 * mn (M 0)
  | i + 1 => if M 3 i = 59 then mCe M i + 18 else mCe M i
def mRw (M : XS) : Nat → (Nat → Int32)
  | 0 => upd (upd (M 0) (57 + 18 * mn (M 0) + 0) 0) (57 + 18 * mn (M 0) + 1) 0
  | i + 1 => if M 3 i = 59 then upd (upd (mRw M i) (mCe M i + 18 + 0) 0) (mCe M i + 18 + 1) 0 else upd (upd (mRw M i) (mCe M i + 2 + (mSc M i).1) (M 3 i)) (mCe M i + 0) (nI ((mSc M i).1 + 1))
theorem mCe_s (M : XS) (i : Nat) : mCe M (i + 1) = if M 3 i = 59 then mCe M i + 18 else mCe M i := rfl
theorem mRw_s (M : XS) (i : Nat) : mRw M (i + 1) = if M 3 i = 59 then upd (upd (mRw M i) (mCe M i + 18 + 0) 0) (mCe M i + 18 + 1) 0 else upd (upd (mRw M i) (mCe M i + 2 + (mSc M i).1) (M 3 i)) (mCe M i + 0) (nI ((mSc M i).1 + 1)) := rfl
theorem mRw_L (M : XS) : ∀ i, mRw M i (mCe M i + 0) = nI (mSc M i).1
  | 0 => by
    show upd (upd (M 0) _ 0) (57 + 18 * mn (M 0) + 1) 0 (57 + 18 * mn (M 0) + 0) = nI 0
    unfold upd
    rw [if_neg (by omega), if_pos rfl]
    rfl
  | i + 1 => by
    have hs : mSc M (i + 1) = if M 3 i = 59 then (0, true) else ((mSc M i).1 + 1, mPt (M 3 i)) := rfl
    rw [mRw_s, mCe_s, hs]
    by_cases h : M 3 i = 59
    · rw [if_pos h, if_pos h, if_pos h]
      unfold upd
      rw [if_neg (by omega), if_pos rfl]
      rfl
    · rw [if_neg h, if_neg h, if_neg h]
      unfold upd
      rw [if_pos rfl]
theorem mCe_eq (M : XS) : ∀ i, mCe M i + 18 = 57 + 18 * (mn (M 0) + mNm M i)
  | 0 => by
    show 57 + 18 * mn (M 0) + 18 = 57 + 18 * (mn (M 0) + 1)
    omega
  | i + 1 => by
    have := mCe_eq M i
    unfold mCe mNm
    split <;> omega
theorem mNm_mono (M : XS) {i : Nat} : ∀ {j : Nat}, i ≤ j → mNm M i ≤ mNm M j
  | 0, h => by
    have : i = 0 := by omega
    subst this
    exact Nat.le_refl _
  | j + 1, h => by
    rcases Nat.lt_or_ge i (j + 1) with q | q
    · have := mNm_mono M (show i ≤ j by omega)
      have e : mNm M (j + 1) = mNm M j + (if M 3 j = 59 then 1 else 0) := rfl
      rw [e]
      omega
    · have : i = j + 1 := by omega
      subst this
      exact Nat.le_refl _
theorem mRw_lo (M : XS) {q : Nat} (hq : q < 57) : ∀ i, mRw M i q = M 0 q
  | 0 => by
    show upd (upd (M 0) _ 0) _ 0 q = M 0 q
    unfold upd
    rw [if_neg (by omega), if_neg (by omega)]
  | i + 1 => by
    have h := mCe_eq M i
    have ih := mRw_lo M hq i
    have h1 : 1 ≤ mNm M i := mNm_mono M (Nat.zero_le i)
    unfold mRw
    split
    · unfold upd
      rw [if_neg (by omega), if_neg (by omega)]
      exact ih
    · unfold upd
      rw [if_neg (by omega), if_neg (by omega)]
      exact ih
theorem mSc16 (M : XS) : ∀ {i : Nat}, (∀ j, j < i → mBad M j = false) → (mSc M i).1 ≤ 16
  | 0, _ => Nat.zero_le _
  | i + 1, h => by
    have ih := mSc16 M (fun j hj => h j (Nat.lt_succ_of_lt hj))
    have hb := h i (Nat.lt_succ_self i)
    unfold mSc
    split
    · exact Nat.zero_le _
    · rename_i h59
      unfold mBad at hb
      rw [if_neg h59] at hb
      simp only [Bool.or_eq_false_iff, decide_eq_false_iff_not] at hb
      show (mSc M i).1 + 1 ≤ 16
      omega
theorem mFault_no {M : XS} (h60 : mt M ≤ 60) (h : mFault M = (-1005)) : ∀ j, j < mt M → mBad M j = false := by
  unfold mFault at h
  have hle : mFl M ≤ mt M := fstN_le _ _
  split at h
  · exact absurd h (nI_m1005 (by omega))
  · rename_i hq
    intro j hj
    exact fstN_no (mBad M) (mt M) j (Nat.lt_of_lt_of_le hj (Nat.le_of_not_lt hq))
def mReadN (M : XS) : mR := if ¬ mFault M = (-1005) then ((-100) - mFault M, M) else if ¬ mn (M 0) + mNm M (mt M) ≤ 20 then ((-1003), M) else (nI (mNm M (mt M)), va_up (mRec M) 0 (upd (mRw M (mt M)) 4 (nI (mn (M 0) + mNm M (mt M)))))
theorem mAdjT_go {M : XS} {a b v : Int32} (h1 : (mOk a && mOk b) = true) (h2 : inR v (-3) 3 = true) (h3 : mCut (M 0) a b = false) (h4 : ¬ mAdj (M 0) a b = v) (h5 : ¬ (mAdj (M 0) a b = 0 ∧ mp (M 0) = 16)) : mAdjT M a b v = (mAdj (M 0) a b, va_up (mRec M) 0 (mPut (M 0) a b v)) := by
  unfold mAdjT
  rw [if_neg (by rw [h1]; decide), if_neg (by rw [h2]; decide), if_neg (by rw [h3]; decide), if_neg h4, if_neg h5]
theorem mAdjT_16 {M : XS} {a b v : Int32} (h1 : (mOk a && mOk b) = true) (h2 : inR v (-3) 3 = true) (h3 : mCut (M 0) a b = false) (h4 : ¬ mAdj (M 0) a b = v) (h5 : mAdj (M 0) a b = 0 ∧ mp (M 0) = 16) : mAdjT M a b v = ((-1003), M) := by
  unfold mAdjT
  rw [if_neg (by rw [h1]; decide), if_neg (by rw [h2]; decide), if_neg (by rw [h3]; decide), if_neg h4, if_pos h5]
theorem mPut_d {f : Nat → Int32} {a b v : Int32} (h : v = 0) : mPut f a b v = mvN (upd f 8 (nI (mp f - 1))) 3 (9 + 3 * mPl f a b) (3 * (mp f - 1 - mPl f a b)) := if_pos h
theorem mPut_n {f : Nat → Int32} {a b v : Int32} (h : ¬ v = 0) (h2 : mAdj f a b = 0) : mPut f a b v = upd (upd (upd (upd f 8 (nI (mp f + 1))) (9 + 3 * mp f) a) (9 + 3 * mp f + 1) b) (9 + 3 * mp f + 2) v := (if_neg h).trans (if_pos h2)
theorem mPut_o {f : Nat → Int32} {a b v : Int32} (h : ¬ v = 0) (h2 : ¬ mAdj f a b = 0) : mPut f a b v = upd (upd (upd (upd f 8 (nI (mp f + 0))) (9 + 3 * mPl f a b) a) (9 + 3 * mPl f a b + 1) b) (9 + 3 * mPl f a b + 2) v := (if_neg h).trans (if_neg h2)
theorem mReadN_go {M : XS} (h1 : mFault M = (-1005)) (h2 : mn (M 0) + mNm M (mt M) ≤ 20) : mReadN M = (nI (mNm M (mt M)), va_up (mRec M) 0 (upd (mRw M (mt M)) 4 (nI (mn (M 0) + mNm M (mt M))))) := by
  unfold mReadN
  rw [if_neg (fun q => q h1), if_neg (fun q => q h2)]
theorem mReadN_f {M : XS} (h1 : ¬ mFault M = (-1005)) : mReadN M = ((-100) - mFault M, M) := if_pos h1
theorem mReadN_n {M : XS} (h1 : mFault M = (-1005)) (h2 : ¬ mn (M 0) + mNm M (mt M) ≤ 20) : mReadN M = ((-1003), M) := by
  unfold mReadN
  rw [if_neg (fun q => q h1), if_pos h2]
theorem mSc_n {M : XS} {i : Nat} (h : ¬ M 3 i = 59) : mSc M (i + 1) = ((mSc M i).1 + 1, mPt (M 3 i)) := if_neg h
theorem mCe_p {M : XS} {i : Nat} (h : M 3 i = 59) : mCe M (i + 1) = mCe M i + 18 := if_pos h
theorem mCe_n {M : XS} {i : Nat} (h : ¬ M 3 i = 59) : mCe M (i + 1) = mCe M i := if_neg h
