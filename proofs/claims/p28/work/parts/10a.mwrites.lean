/-! ===== what the model's acts leave ===== -/
def mk (M : XS) : Nat := (M 4 0).toNatClampNeg
def mt (M : XS) : Nat := (M 4 2).toNatClampNeg
def okK (M : XS) : Prop := M 4 0 = nI (mk M) ∧ mk M ≤ 5
def okMT (M : XS) : Prop := M 4 2 = nI (mt M) ∧ mt M ≤ 60 ∧ ∀ j, j < 60 → chOk (M 3 j)
/-- rows laid into rows -/
def cpN (f h : Nat → Int32) (o t : Nat) : Nat → Int32 := fun q => if o ≤ q ∧ q < o + t then h (q - o) else f q
theorem cpN_0 (f h : Nat → Int32) (o : Nat) : cpN f h o 0 = f := by
  funext q
  unfold cpN
  rw [if_neg (by omega)]
theorem cpN_step (f h : Nat → Int32) (o t : Nat) : cpN f h o (t + 1) = upd (cpN f h o t) (o + t) (h t) := by
  funext q
  unfold cpN upd
  by_cases e : q = o + t
  · rw [if_pos (by omega), if_pos e, e]
    congr 1
    omega
  · rw [if_neg e]
    dsimp only
    by_cases e2 : o ≤ q ∧ q < o + t
    · rw [if_pos e2, if_pos (by omega)]
    · rw [if_neg e2, if_neg (by omega)]
/-- a row that moves down by d places, from o on -/
def mvN (f : Nat → Int32) (d o t : Nat) : Nat → Int32 := fun q => if o ≤ q ∧ q < o + t then f (q + d) else f q
theorem mvN_0 (f : Nat → Int32) (d o : Nat) : mvN f d o 0 = f := by
  funext q
  unfold mvN
  rw [if_neg (by omega)]
theorem mvN_at (f : Nat → Int32) {d o t : Nat} (hd : 0 < d) : mvN f d o t (o + t + d) = f (o + t + d) := by
  unfold mvN
  rw [if_neg (by omega)]
theorem mvN_lo (f : Nat → Int32) {d o t q : Nat} (h : q < o) : mvN f d o t q = f q := by
  unfold mvN
  rw [if_neg (by omega)]
theorem mvN_step (f : Nat → Int32) {d o t : Nat} (hd : 0 < d) : mvN f d o (t + 1) = upd (mvN f d o t) (o + t) (mvN f d o t (o + t + d)) := by
  funext q
  rw [mvN_at f hd]
  unfold upd mvN
  by_cases e : q = o + t
  · rw [if_pos (by omega), if_pos e, e]
  · rw [if_neg e]
    by_cases e2 : o ≤ q ∧ q < o + t
    · rw [if_pos e2, if_pos (by omega)]
    · rw [if_neg e2, if_neg (by omega)]
theorem md_row0 (G : GG) (ad : Nat → Nat) {M : XS} {f g : Nat → Int32} (h : f = g) : mdC G ad (va_up M 0 f) = mdC G ad (va_up M 0 g) := by rw [h]
theorem md_row1 (G : GG) (ad : Nat → Nat) {M : XS} {f g : Nat → Int32} (h : f = g) : mdC G ad (va_up M 1 f) = mdC G ad (va_up M 1 g) := by rw [h]
theorem md_row2 (G : GG) (ad : Nat → Nat) {M : XS} {f g : Nat → Int32} (h : f = g) : mdC G ad (va_up M 2 f) = mdC G ad (va_up M 2 g) := by rw [h]
def mRh (M : XS) : Nat → Int32 := if mk M = 5 then cpN (mvN (M 1) 417 0 1668) (M 0) (417 * (mk M - 1)) 417 else cpN (M 1) (M 0) (417 * mk M) 417
def mRk (M : XS) : Int32 := if mk M = 5 then nI (mk M - 1 + 1) else nI (mk M + 1)
def mRec (M : XS) : XS := va_up (va_up M 1 (mRh M)) 4 (upd (M 4) 0 (mRk M))
theorem mRec_5 {M : XS} (h : mk M = 5) : mRec M = va_up (va_up M 1 (cpN (mvN (M 1) 417 0 1668) (M 0) (417 * (mk M - 1)) 417)) 4 (upd (M 4) 0 (nI (mk M - 1 + 1))) := by
  unfold mRec mRh mRk
  rw [if_pos h, if_pos h]
theorem mRec_n {M : XS} (h : ¬ mk M = 5) : mRec M = va_up (va_up M 1 (cpN (M 1) (M 0) (417 * mk M) 417)) 4 (upd (M 4) 0 (nI (mk M + 1))) := by
  unfold mRec mRh mRk
  rw [if_neg h, if_neg h]
abbrev mR : Type := Int32 × XS
def clE (f : Nat → Int32) : Nat → (Nat → Int32)
  | 0 => f
  | t + 1 => upd (clE f t) (57 + 18 * t + 1) 0
theorem clE_4 (f : Nat → Int32) : ∀ t, clE f t 4 = f 4
  | 0 => rfl
  | t + 1 => by
    unfold clE upd
    rw [if_neg (by omega)]
    exact clE_4 f t
def mRc (f : Nat → Int32) (w h : Int32) : Nat → Int32 := upd (upd (upd (clE (upd (upd f 0 w) 1 h) (mn f)) 5 0) 6 (clE (upd (upd f 0 w) 1 h) (mn f) 6 + 1)) 7 (clE (upd (upd f 0 w) 1 h) (mn f) 7 + mEs f)
def mRecut (M : XS) (w h : Int32) : mR := if inR w 300 6000 = false ∨ inR h 100 3000 = false then ((-1002), M) else (mEs (M 0), va_up (mRec M) 0 (mRc (M 0) w h))
def mSet (M : XS) (k : Nat) (v : Int32) : mR := if ¬ mEs (M 0) ≤ 0 then ((-1004), M) else if M 0 k = v then ((-1005), M) else (M 0 k, va_up (mRec M) 0 (upd (M 0) k v))
def mMar (M : XS) (v : Int32) : mR := if inR v 0 100 = true then mSet M 2 v else ((-1002), M)
def mColu (M : XS) (v : Int32) : mR := if inR v 1 3 = true then mSet M 3 v else ((-1002), M)
def mType (M : XS) (c : Int32) : mR := if mt M = 60 then ((-1003), M) else (nI (mt M + 1), va_up (va_up M 3 (upd (M 3) (mt M) c)) 4 (upd (M 4) 2 (nI (mt M + 1))))
def mClear (M : XS) : mR := (M 4 2, va_up M 4 (upd (M 4) 2 0))
/-- the state of the fault's search: signs, whether a letter is wanted -/
def mSc (M : XS) : Nat → Nat × Bool
  | 0 => (0, true)
  | i + 1 => if M 3 i = 59 then (0, true) else ((mSc M i).1 + 1, mPt (M 3 i))
theorem mSc_le (M : XS) : ∀ i, (mSc M i).1 ≤ i
  | 0 => Nat.le_refl _
  | i + 1 => by
    have := mSc_le M i
    unfold mSc
    split <;> simp <;> omega
def mBad (M : XS) (i : Nat) : Bool := if M 3 i = 59 then (mSc M i).2 else decide ((mSc M i).1 = 16) || (!(mL (M 3 i)) && ((mSc M i).2 || !(mPt (M 3 i))))
def mFl (M : XS) : Nat := fstN (mBad M) (mt M)
def mFault (M : XS) : Int32 := if mFl M < mt M then nI (mFl M) else if (mSc M (mt M)).2 = true then nI (mt M) else (-1005)
def mNm (M : XS) : Nat → Nat
  | 0 => 1
  | i + 1 => mNm M i + (if M 3 i = 59 then 1 else 0)
theorem mNm_le (M : XS) : ∀ i, mNm M i ≤ i + 1
  | 0 => Nat.le_refl _
  | i + 1 => by
    have := mNm_le M i
    unfold mNm
    split <;> omega
def mUndo (M : XS) : mR := if mk M = 0 then ((-1005), M) else (nI (mk M - 1), va_up (va_up M 0 (cpN (M 0) (fun q => M 1 (417 * (mk M - 1) + q)) 0 417)) 4 (upd (M 4) 0 (nI (mk M - 1))))
def mKeep (M : XS) : mR := (M 0 4, va_up (va_up M 2 (cpN (M 2) (M 0) 0 417)) 4 (upd (M 4) 1 1))
def mRest (M : XS) : mR := if M 4 1 = 0 then ((-1005), M) else (cpN (M 0) (M 2) 0 417 4, va_up (mRec M) 0 (cpN (M 0) (M 2) 0 417))
def mEg (f : Nat → Int32) (k : Nat) (z : Int32) : Nat → Int32 := upd (upd f (57 + 18 * k + 1) 1) 5 z
