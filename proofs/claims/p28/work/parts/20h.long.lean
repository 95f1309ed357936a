/-! ===== bounds of units; the longest name ===== -/
theorem mL_j {c : Int32} (h : mL c = true) : ∃ j : Nat, j < 26 ∧ c - 65 = nI j := by
  have hb := inR_b h
  rw [show (65 : Int32).toInt = 65 by decide, show (90 : Int32).toInt = 90 by decide] at hb
  refine ⟨(c.toInt - 65).toNat, by omega, ?_⟩
  apply Int32.toInt_inj.mp
  rw [nI_toInt (by omega), Int32.toInt_sub, show (65 : Int32).toInt = 65 by decide, Int.bmod_eq_of_le (by omega) (by omega)]
  omega
theorem mW_in (c : Int32) : 2 ≤ (mW c).toInt ∧ (mW c).toInt ≤ 9 := by
  unfold mW
  split
  · rename_i h
    obtain ⟨j, hj, e⟩ := mL_j h
    rw [e]
    have : ∀ j : Nat, j < 26 → 2 ≤ (3 + irem (nI j * 5) 7).toInt ∧ (3 + irem (nI j * 5) 7).toInt ≤ 9 := by decide +kernel
    exact this j hj
  · split <;> decide
theorem mO_in (c : Int32) : 0 ≤ (mO c).toInt ∧ (mO c).toInt ≤ 2 := by
  unfold mO
  split
  · rename_i h
    obtain ⟨j, hj, e⟩ := mL_j h
    rw [e]
    have : ∀ j : Nat, j < 26 → 0 ≤ (irem (nI j) 3).toInt ∧ (irem (nI j) 3).toInt ≤ 2 := by decide +kernel
    exact this j hj
  · decide
theorem mAdj_b {X : XS} {f : Nat → Int32} (h : rP X f) (a b : Int32) : -3 ≤ (mAdj f a b).toInt ∧ (mAdj f a b).toInt ≤ 3 := by
  unfold mAdj
  split
  · rename_i q
    obtain ⟨⟨-, -, a3⟩, -, a5⟩ := h.2 _ (show mPl f a b < xp X by rw [h.1]; exact q)
    rw [← a3]
    exact a5
  · decide
theorem mSpace_in {X : XS} {f : Nat → Int32} (h : rP X f) (a b : Int32) : 1 ≤ (mSpace f a b).toInt ∧ (mSpace f a b).toInt ≤ 9 := by
  have h1 := mO_in a
  have h2 := mO_in b
  have h3 := mAdj_b h a b
  have e : (6 - mO a - mO b + mAdj f a b).toInt = 6 - (mO a).toInt - (mO b).toInt + (mAdj f a b).toInt := by
    rw [Int32.toInt_add, Int32.toInt_sub, Int32.toInt_sub, show (6 : Int32).toInt = 6 by decide, Int.bmod_eq_of_le (n := 6 - (mO a).toInt) (by omega) (by omega), Int.bmod_eq_of_le (n := 6 - (mO a).toInt - (mO b).toInt) (by omega) (by omega), Int.bmod_eq_of_le (by omega) (by omega)]
  unfold mSpace
  split
  · decide
  · rename_i q
    rw [Int32.lt_iff_toInt_lt, show (1 : Int32).toInt = 1 by decide] at q
    omega
theorem mSt_in {X : XS} {f : Nat → Int32} (h : rP X f) (k j : Nat) : 3 ≤ (mSt f k j).toInt ∧ (mSt f k j).toInt ≤ 18 := by
  have h1 := mW_in (mSg f k j)
  have h2 := mSpace_in h (mSg f k j) (mSg f k (j + 1))
  unfold mSt
  rw [Int32.toInt_add, Int.bmod_eq_of_le (by omega) (by omega)]
  omega
theorem mUt_in {X : XS} {f : Nat → Int32} (h : rP X f) (k : Nat) {i : Nat} (hi : i ≤ 16) : 0 ≤ (mUt f k i).toInt ∧ (mUt f k i).toInt ≤ 18 * i := by
  have := sumI_in (g := mSt f k) (a := 3) (b := 18) (n := i) (by omega) (by omega) (by omega) (fun j _ => mSt_in h k j)
  unfold mUt
  omega
theorem mU_in {X : XS} {f : Nat → Int32} (h : Rl X f) {k : Nat} (hk : k < xn X) : 2 ≤ (mU f k).toInt ∧ (mU f k).toInt ≤ 288 := by
  have hl1 := h.l1 hk
  have hl16 := h.x.l16 (show k < 20 by have := h.x.n20; omega)
  rw [h.l hk] at hl1 hl16
  have h1 := mUt_in h.P k (show ml f k - 1 ≤ 16 by omega)
  have h2 := mW_in (mSg f k (ml f k - 1))
  unfold mU
  rw [Int32.toInt_add, Int.bmod_eq_of_le (by omega) (by omega)]
  omega
theorem mB_le {X : XS} {f : Nat → Int32} (h : Rl X f) : ∀ {i : Nat}, i ≤ xn X → ∀ {j : Nat}, j < i → mU f j ≤ mU f (mB f i)
  | 0, _, _, hj => absurd hj (Nat.not_lt_zero _)
  | i + 1, hi, j, hj => by
    have eB : mB f (i + 1) = if i = 0 then 0 else if mU f i ≤ mU f (mB f i) then mB f i else i := rfl
    rw [eB]
    by_cases i0 : i = 0
    · subst i0
      have : j = 0 := by omega
      subst this
      exact Int32.le_refl _
    · rw [if_neg i0]
      by_cases q : mU f i ≤ mU f (mB f i)
      · rw [if_pos q]
        rcases Nat.lt_or_ge j i with z | z
        · exact mB_le h (by omega) z
        · have : j = i := by omega
          subst this
          exact q
      · rw [if_neg q]
        rcases Nat.lt_or_ge j i with z | z
        · exact Int32.le_trans (mB_le h (by omega) z) (Int32.le_of_lt (Int32.not_le.mp q))
        · have : j = i := by omega
          subst this
          exact Int32.le_refl _
theorem mB_max {X : XS} {f : Nat → Int32} (h : Rl X f) : ∀ {i : Nat}, i + 1 ≤ xn X → mMostN f (-1005) (i + 1) = mU f (mB f (i + 1)) ∧ mB f (i + 1) < i + 1 ∧ ∀ j, j < mB f (i + 1) → mU f j < mU f (mB f (i + 1))
  | 0, hi => by
    have h1 := mU_in h (show 0 < xn X by omega)
    refine ⟨?_, Nat.lt_succ_self 0, fun j hj => absurd hj (Nat.not_lt_zero _)⟩
    show (if mIts f (-1005) 0 ≤ 0 then 0 else mIts f (-1005) 0) = mU f 0
    have e : mIts f (-1005) 0 = mU f 0 := if_neg (nI_m1005 (by decide))
    rw [e, if_neg]
    rw [Int32.le_iff_toInt_le, Int32.toInt_zero]
    omega
  | i + 1, hi => by
    obtain ⟨a1, a2, a3⟩ := mB_max h (show i + 1 ≤ xn X by omega)
    have hn := h.x.n20
    have e : mIts f (-1005) (i + 1) = mU f (i + 1) := if_neg (nI_m1005 (by omega))
    have eM : mMostN f (-1005) (i + 1 + 1) = if mIts f (-1005) (i + 1) ≤ mMostN f (-1005) (i + 1) then mMostN f (-1005) (i + 1) else mIts f (-1005) (i + 1) := rfl
    have eB : mB f (i + 1 + 1) = if i + 1 = 0 then 0 else if mU f (i + 1) ≤ mU f (mB f (i + 1)) then mB f (i + 1) else i + 1 := rfl
    rw [eM, eB, if_neg (Nat.succ_ne_zero i), e, a1]
    by_cases q : mU f (i + 1) ≤ mU f (mB f (i + 1))
    · rw [if_pos q, if_pos q]
      exact ⟨rfl, by omega, a3⟩
    · rw [if_neg q, if_neg q]
      refine ⟨rfl, by omega, fun j hj => ?_⟩
      have hlt := Int32.not_le.mp q
      rcases Nat.lt_trichotomy j (mB f (i + 1)) with z | z | z
      · exact Int32.lt_trans (a3 j z) hlt
      · rw [z]; exact hlt
      · refine Int32.lt_of_le_of_lt ?_ hlt
        exact mB_le h (show i + 1 ≤ xn X by omega) hj
theorem rLong {X : XS} {f : Nat → Int32} (h : Rl X f) : yLong X = mBestI f (mn f) := by
  unfold yLong mBestI
  rw [h.n]
  rcases Nat.eq_zero_or_pos (mn f) with z | z
  · rw [if_pos z, if_neg (by rw [z]; exact Nat.not_lt_zero _)]
  · obtain ⟨n, hn⟩ : ∃ n, mn f = n + 1 := ⟨mn f - 1, by omega⟩
    obtain ⟨a1, a2, a3⟩ := mB_max h (i := n) (by rw [h.n]; omega)
    have e : fstN (yLq X) (mn f) = mB f (mn f) := by
      rw [hn]
      have hm : xMost X (-1) = mU f (mB f (n + 1)) := by rw [rMost h]; unfold mMost; rw [hn]; exact a1
      refine fstN_eq (Nat.le_of_lt a2) (fun j hj => ?_) (fun _ => ?_)
      · unfold yLq
        rw [hm, rU h (show j < xn X by rw [h.n]; omega)]
        exact decide_eq_false (fun q => by have := a3 j hj; rw [q] at this; exact Int32.lt_irrefl this)
      · unfold yLq
        rw [hm, rU h (show mB f (n + 1) < xn X by rw [h.n]; omega)]
        exact decide_eq_true rfl
    rw [e, if_pos (show mB f (mn f) < mn f by rw [hn]; exact a2), if_neg (show ¬ mn f = 0 by omega)]
