/-! ===== engraving keeps the two of one plate ===== -/
theorem shl_n : ∀ k, k < 20 → (1 : Int32) <<< (nI k &&& 31) = nI (2 ^ k) := by decide +kernel
theorem rEngr {X : XS} {f : Nat → Int32} (h : Rl X f) {k : Nat} (hk : k < xn X) {z : Int32} (hz : 1 ≤ z.toInt ∧ z.toInt ≤ 40) : Rl (xMe X (1 <<< (nI k &&& 31)) z) (mEg f k z) := by
  have hn := h.x.n20
  have hlt := xE_lt h
  have hp : 2 ^ k < 1048576 := Nat.pow_lt_pow_right (a := 2) (n := 20) (by decide) (by omega)
  have hor : xE X ||| 2 ^ k < 2 ^ xn X := Nat.or_lt_two_pow h.E.2.1 (Nat.pow_lt_pow_right (by decide) hk)
  have hle : (2 : Nat) ^ xn X ≤ 1048576 := Nat.pow_le_pow_right (n := 2) (by decide) hn
  have e6 : (xMe X (1 <<< (nI k &&& 31)) z) 5 6 = nI (xE X ||| 2 ^ k) := by
    show X 5 6 ||| (1 <<< (nI k &&& 31)) = _
    rw [shl_n k (by omega), h.E.1, bor]
  have xe2 : xE (xMe X (1 <<< (nI k &&& 31)) z) = xE X ||| 2 ^ k := by
    unfold xE
    rw [e6, nI_clamp (by omega)]
    rfl
  have hM := okM_eg h.m k z
  have hX : okX (xMe X (1 <<< (nI k &&& 31)) z) := h.x
  have el : ∀ j, ml (mEg f k z) j = ml f j := fun j => by unfold ml; rw [mEg_ne (by omega) (by omega)]
  have ep : mp (mEg f k z) = mp f := by unfold mp; rw [mEg_ne (by omega) (by omega)]
  refine ⟨hX, hM, ⟨?_, fun j hj => ?_, fun j i hj hi => ?_⟩, ⟨?_, ?_, fun j hj => ?_, fun q => ?_⟩, ⟨?_, fun j hj => ?_⟩, ?_⟩
  · rw [mn_eg]; exact h.n
  · rw [el]; exact h.l hj
  · have hl16 := h.x.l16 (show j < 20 from Nat.lt_of_lt_of_le hj hn)
    have hi2 : i < 16 := Nat.lt_of_lt_of_le hi hl16
    have e : mSg (mEg f k z) j i = mSg f j i := by unfold mSg; exact mEg_ne (by omega) (by omega)
    rw [e]
    exact h.N.2.2 j i hj hi
  · rw [xe2]; exact e6
  · rw [xe2]; exact hor
  · rw [xe2, Nat.testBit_or, Nat.testBit_two_pow]
    by_cases q : j = k
    · subst q
      have e : mE (mEg f j z) j = 1 := by
        unfold mE mEg upd
        rw [if_neg (by omega), if_pos rfl]
      rw [e]
      simp [b2i]
    · have e : mE (mEg f k z) j = mE f j := by unfold mE; exact mEg_ne (by omega) (by omega)
      rw [e, h.E.2.2.1 j hj, decide_eq_false (fun t => q t.symm), Bool.or_false]
  · exact ⟨rfl, hz⟩
  · rw [ep]; exact h.P.1
  · have hj2 : j < xp X := hj
    have h16 := h.x.p16
    rw [mEg_ne (by omega) (by omega), mEg_ne (by omega) (by omega), mEg_ne (by omega) (by omega)]
    exact h.P.2 j hj
  · have e : ∀ q, q < 5 → mEg f k z q = f q := fun q hq => mEg_ne (by omega) (by omega)
    unfold rS
    rw [e 0 (by omega), e 1 (by omega), e 2 (by omega), e 3 (by omega), mEg_ne (q := 6) (by omega) (by omega), mEg_ne (q := 7) (by omega) (by omega)]
    exact h.S
