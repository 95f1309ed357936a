/-! ===== the class's State and the model's row tell of one plate ===== -/
def xE (X : XS) : Nat := (X 5 6).toNatClampNeg
def rE (X : XS) (f : Nat → Int32) : Prop := X 5 6 = nI (xE X) ∧ xE X < 2 ^ xn X ∧ (∀ k, k < xn X → mE f k = b2i ((xE X).testBit k)) ∧ (xE X ≠ 0 → X 5 7 = f 5 ∧ 1 ≤ (f 5).toInt ∧ (f 5).toInt ≤ 40)
def rN (X : XS) (f : Nat → Int32) : Prop := xn X = mn f ∧ (∀ k, k < xn X → xl X k = ml f k) ∧ ∀ k j, k < xn X → j < xl X k → xSg X k j = mSg f k j ∧ xOk (xSg X k j) = true
def rP (X : XS) (f : Nat → Int32) : Prop := xp X = mp f ∧ ∀ j, j < xp X → (X 2 j = f (9 + 3 * j) ∧ X 3 j = f (9 + 3 * j + 1) ∧ X 4 j = f (9 + 3 * j + 2)) ∧ ¬ X 4 j = 0 ∧ -3 ≤ (X 4 j).toInt ∧ (X 4 j).toInt ≤ 3
def rS (X : XS) (f : Nat → Int32) : Prop := (X 5 2 = f 0 ∧ X 5 3 = f 1 ∧ X 5 4 = f 2 ∧ X 5 5 = f 3 ∧ X 5 8 = f 6 ∧ X 5 9 = f 7) ∧ (300 ≤ (f 0).toInt ∧ (f 0).toInt ≤ 6000) ∧ (100 ≤ (f 1).toInt ∧ (f 1).toInt ≤ 3000) ∧ (0 ≤ (f 2).toInt ∧ (f 2).toInt ≤ 100) ∧ 1 ≤ (f 3).toInt ∧ (f 3).toInt ≤ 3
def Rl (X : XS) (f : Nat → Int32) : Prop := okX X ∧ okM f ∧ rN X f ∧ rE X f ∧ rP X f ∧ rS X f
theorem Rl.x {X : XS} {f : Nat → Int32} (h : Rl X f) : okX X := h.1
theorem Rl.m {X : XS} {f : Nat → Int32} (h : Rl X f) : okM f := h.2.1
theorem Rl.N {X : XS} {f : Nat → Int32} (h : Rl X f) : rN X f := h.2.2.1
theorem Rl.E {X : XS} {f : Nat → Int32} (h : Rl X f) : rE X f := h.2.2.2.1
theorem Rl.P {X : XS} {f : Nat → Int32} (h : Rl X f) : rP X f := h.2.2.2.2.1
theorem Rl.S {X : XS} {f : Nat → Int32} (h : Rl X f) : rS X f := h.2.2.2.2.2
theorem Rl.n {X : XS} {f : Nat → Int32} (h : Rl X f) : xn X = mn f := h.N.1
theorem Rl.l {X : XS} {f : Nat → Int32} (h : Rl X f) {k : Nat} (hk : k < xn X) : xl X k = ml f k := h.N.2.1 k hk
theorem Rl.l1 {X : XS} {f : Nat → Int32} (h : Rl X f) {k : Nat} (hk : k < xn X) : 1 ≤ xl X k := by
  rw [h.l hk]
  exact h.m.l1 (by rw [← h.n]; exact hk)
theorem Rl.sg {X : XS} {f : Nat → Int32} (h : Rl X f) {k j : Nat} (hk : k < xn X) (hj : j < xl X k) : xSg X k j = mSg f k j := (h.N.2.2 k j hk hj).1
theorem Rl.sok {X : XS} {f : Nat → Int32} (h : Rl X f) {k j : Nat} (hk : k < xn X) (hj : j < xl X k) : xOk (mSg f k j) = true := by
  rw [← h.sg hk hj]
  exact (h.N.2.2 k j hk hj).2
/-! signs -/
theorem xL_m (c : Int32) : xL c = mL c := rfl
theorem xOk_m (c : Int32) : xOk c = mOk c := rfl
theorem ok_L {c : Int32} (h : xOk c = true) (h1 : ¬ c = 46) (h2 : ¬ c = 45) : mL c = true := by
  unfold xOk xMk at h
  rw [decide_eq_false h1, decide_eq_false h2, Bool.or_false, Bool.or_false] at h
  exact h
theorem rW {c : Int32} (h : xOk c = true) : xW c = mW c := by
  by_cases h1 : c = 46
  · subst h1; decide
  · by_cases h2 : c = 45
    · subst h2; decide
    · unfold xW mW
      rw [if_neg h1, if_neg h2, if_pos (ok_L h h1 h2)]
theorem rO {c : Int32} (h : xOk c = true) : xO c = mO c := by
  by_cases h1 : c = 46
  · subst h1; decide
  · by_cases h2 : c = 45
    · subst h2; decide
    · unfold xO mO
      rw [if_neg (fun q => q.elim h1 h2), if_pos (ok_L h h1 h2)]
theorem rI {c : Int32} (h : xOk c = true) : xI c = mI c := by
  by_cases h1 : c = 46
  · subst h1; decide
  · by_cases h2 : c = 45
    · subst h2; decide
    · unfold xI mI
      rw [if_neg h1, if_neg h2, if_pos (ok_L h h1 h2)]
/-! pairs -/
theorem rPl {X : XS} {f : Nat → Int32} (h : rP X f) (a b : Int32) : xPl X a b = mPl f a b := by
  unfold xPl mPl
  rw [← h.1]
  refine fstN_congr (fun j hj => ?_)
  unfold xPq mPq
  rw [(h.2 j hj).1.1, (h.2 j hj).1.2.1]
theorem rAdj {X : XS} {f : Nat → Int32} (h : rP X f) (a b : Int32) : xAdj X a b = mAdj f a b := by
  unfold xAdj xAt mAdj
  rw [rPl h, h.1]
  split
  · rename_i q
    exact (h.2 _ (by rw [h.1]; exact q)).1.2.2
  · rfl
theorem imax1 (y : Int32) : imax 1 y = if y < 1 then 1 else y := by
  unfold imax
  by_cases h : y < 1
  · rw [if_pos h, if_neg (fun q => Int32.lt_irrefl (Int32.lt_trans h q))]
  · rw [if_neg h]
    by_cases h2 : 1 < y
    · rw [if_pos h2]
    · rw [if_neg h2]
      exact Int32.le_antisymm (Int32.not_lt.mp h) (Int32.not_lt.mp h2)
/-! units -/
section RU
variable {X : XS} {f : Nat → Int32} (h : Rl X f) {k : Nat} (hk : k < xn X)
theorem rSp (h : Rl X f) {k : Nat} (hk : k < xn X) {j : Nat} (hj : j + 1 < xl X k) : xSp X k j = mSpace f (mSg f k j) (mSg f k (j + 1)) := by
  unfold xSp mSpace
  rw [if_neg (by omega), h.sg hk (show j < xl X k by omega), h.sg hk hj, rO (h.sok hk (show j < xl X k by omega)), rO (h.sok hk hj), rAdj h.P, imax1]
theorem rSt (h : Rl X f) {k : Nat} (hk : k < xn X) {j : Nat} (hj : j + 1 < xl X k) : xSt X k j = mSt f k j := by
  unfold xSt mSt
  rw [rSp h hk hj, h.sg hk (show j < xl X k by omega), rW (h.sok hk (show j < xl X k by omega))]
theorem rUb (h : Rl X f) {k : Nat} (hk : k < xn X) {i : Nat} (hi : i < xl X k) : xUb X k i = mUt f k i := sumI_congr (fun j hj => rSt h hk (by omega))
theorem rU (h : Rl X f) {k : Nat} (hk : k < xn X) : xU X k = mU f k := by
  have h1 := h.l1 hk
  obtain ⟨n, hn⟩ : ∃ n, xl X k = n + 1 := ⟨xl X k - 1, by omega⟩
  have hs : sumI (xSt X k) (n + 1) = sumI (xSt X k) n + xSt X k n := rfl
  have hl : xSp X k n = 0 := by unfold xSp; rw [if_pos (by omega)]
  have hu := rUb h hk (show n < xl X k by omega)
  unfold xUb at hu
  unfold xU xUb mU
  rw [← h.l hk, hn, hs, hu, Nat.add_sub_cancel]
  unfold xSt
  rw [hl, h.sg hk (show n < xl X k by omega), rW (h.sok hk (show n < xl X k by omega)), Int32.add_zero]
theorem rInk (h : Rl X f) {k : Nat} (hk : k < xn X) : xInk X k = mInk f k := by
  unfold xInk mInk
  rw [← h.l hk]
  exact sumI_congr (fun j hj => by rw [h.sg hk hj, rI (h.sok hk hj)])
theorem rMom (h : Rl X f) {k : Nat} (hk : k < xn X) : xMom X k = mMom f k := by
  unfold xMom mMom
  rw [← h.l hk]
  refine sumI_congr (fun j hj => ?_)
  unfold xMt mMt
  rw [h.sg hk hj, rI (h.sok hk hj), rW (h.sok hk hj), rUb h hk hj]
end RU
