/-! ===== acts keep the two of one plate: recut, numbers set ===== -/
theorem clE_ne {f : Nat → Int32} {q : Nat} : ∀ {t : Nat}, (∀ j, j < t → q ≠ 57 + 18 * j + 1) → clE f t q = f q
  | 0, _ => rfl
  | t + 1, h => by
    unfold clE upd
    rw [if_neg (h t (Nat.lt_succ_self t))]
    exact clE_ne (fun j hj => h j (Nat.lt_succ_of_lt hj))
theorem clE_eq {f : Nat → Int32} {j : Nat} : ∀ {t : Nat}, j < t → clE f t (57 + 18 * j + 1) = 0
  | 0, h => absurd h (Nat.not_lt_zero _)
  | t + 1, h => by
    unfold clE upd
    by_cases q : j = t
    · rw [if_pos (by rw [q])]
    · rw [if_neg (by omega)]
      exact clE_eq (by omega)
theorem mRc_hi {f : Nat → Int32} {w hh : Int32} {q : Nat} (h8 : 8 ≤ q) (h : ∀ j, j < mn f → q ≠ 57 + 18 * j + 1) : mRc f w hh q = f q := by
  unfold mRc upd
  rw [if_neg (by omega), if_neg (by omega), if_neg (by omega), clE_ne h, if_neg (by omega), if_neg (by omega)]
theorem mRc_lo {f : Nat → Int32} {w hh : Int32} {q : Nat} (h8 : q < 8) : mRc f w hh q = if q = 7 then f 7 + mEs f else if q = 6 then f 6 + 1 else if q = 5 then 0 else if q = 1 then hh else if q = 0 then w else f q := by
  have e : ∀ q, q < 8 → clE (upd (upd f 0 w) 1 hh) (mn f) q = upd (upd f 0 w) 1 hh q := fun q hq => clE_ne (fun j _ => by omega)
  unfold mRc
  rw [e 6 (by omega), e 7 (by omega)]
  unfold upd
  by_cases h7 : q = 7
  · rw [if_pos h7, if_pos h7]
    rfl
  · rw [if_neg h7, if_neg h7]
    by_cases h6 : q = 6
    · rw [if_pos h6, if_pos h6]
      rfl
    · rw [if_neg h6, if_neg h6]
      by_cases h5 : q = 5
      · rw [if_pos h5, if_pos h5]
      · rw [if_neg h5, if_neg h5]
        exact e q h8
theorem rRecut {X : XS} {f : Nat → Int32} (h : Rl X f) {w hh : Int32} (hw : 300 ≤ w.toInt ∧ w.toInt ≤ 6000) (h2 : 100 ≤ hh.toInt ∧ hh.toInt ≤ 3000) : Rl (xRe X w hh) (mRc f w hh) := by
  have hM : okM (mRc f w hh) := okM_of h.m (by rw [mRc_lo (by decide)]; rfl) (mRc_hi (Nat.le_refl _) (fun j _ => by omega)) (by rw [mRc_lo (by decide)]; rfl) (fun k hk => ⟨k, hk, mRc_hi (by omega) (fun j _ => by omega)⟩)
  have hn : mn (mRc f w hh) = mn f := by unfold mn; rw [mRc_lo (by decide)]; rfl
  have hp : mp (mRc f w hh) = mp f := by unfold mp; rw [mRc_hi (Nat.le_refl _) (fun j _ => by omega)]
  have hl : ∀ k, ml (mRc f w hh) k = ml f k := fun k => by unfold ml; rw [mRc_hi (by omega) (fun j _ => by omega)]
  have hX : okX (xRe X w hh) := h.x
  refine ⟨hX, hM, ⟨?_, fun k hk => ?_, fun k j hk hj => ?_⟩, ⟨rfl, ?_, fun k hk => ?_, fun q => absurd rfl q⟩, ⟨?_, fun j hj => ?_⟩, ⟨⟨?_, ?_, ?_, ?_, ?_, ?_⟩, ?_, ?_, ?_, ?_⟩⟩
  · rw [hn]; exact h.n
  · rw [hl]; exact h.l hk
  · have hl16 := h.x.l16 (show k < 20 by have := h.x.n20; exact Nat.lt_of_lt_of_le hk this)
    have hj2 : j < 16 := Nat.lt_of_lt_of_le hj hl16
    have e : mSg (mRc f w hh) k j = mSg f k j := by unfold mSg; exact mRc_hi (by omega) (fun i _ => by omega)
    rw [e]
    exact h.N.2.2 k j hk hj
  · exact Nat.two_pow_pos _
  · have hk2 : k < mn f := by rw [← h.n]; exact hk
    show mRc f w hh (57 + 18 * k + 1) = b2i ((0 : Nat).testBit k)
    have e : mRc f w hh (57 + 18 * k + 1) = 0 := by
      unfold mRc upd
      rw [if_neg (by omega), if_neg (by omega), if_neg (by omega)]
      exact clE_eq hk2
    rw [e, Nat.zero_testBit]
    rfl
  · rw [hp]; exact h.P.1
  · have hj2 : j < xp X := hj
    have h16 := h.x.p16
    rw [mRc_hi (by omega) (fun i _ => by omega), mRc_hi (by omega) (fun i _ => by omega), mRc_hi (by omega) (fun i _ => by omega)]
    exact h.P.2 j hj
  · rw [mRc_lo (by decide)]; rfl
  · rw [mRc_lo (by decide)]; rfl
  · rw [mRc_lo (by decide)]; exact h.S.1.2.2.1
  · rw [mRc_lo (by decide)]; exact h.S.1.2.2.2.1
  · rw [mRc_lo (by decide)]
    show X 5 8 + 1 = f 6 + 1
    rw [h.S.1.2.2.2.2.1]
  · rw [mRc_lo (by decide)]
    show X 5 9 + bitc (X 5 6) = f 7 + mEs f
    rw [h.S.1.2.2.2.2.2, rBc h]
  · rw [mRc_lo (by decide)]; exact hw
  · rw [mRc_lo (by decide)]; exact h2
  · rw [mRc_lo (by decide)]; exact h.S.2.2.2.1
  · rw [mRc_lo (by decide)]; exact h.S.2.2.2.2
