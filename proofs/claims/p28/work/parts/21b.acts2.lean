theorem upd_n {f : Nat → Int32} {a : Nat} {v : Int32} {q : Nat} (h : q ≠ a) : upd f a v q = f q := if_neg h
theorem okM_set {f : Nat → Int32} (hok : okM f) {a : Nat} {v : Int32} (ha : a = 2 ∨ a = 3) (hv : a = 3 → ¬ v = 0) : okM (upd f a v) := by
  have e4 : mn (upd f a v) = mn f := by unfold mn; rw [upd_n (by omega)]
  have e8 : mp (upd f a v) = mp f := by unfold mp; rw [upd_n (by omega)]
  have el : ∀ k, ml (upd f a v) k = ml f k := fun k => by unfold ml; rw [upd_n (by omega)]
  refine ⟨by rw [e4, upd_n (by omega)]; exact hok.n, by rw [e4]; exact hok.n20, fun k hk => ?_, by rw [e8, upd_n (by omega)]; exact hok.p, by rw [e8]; exact hok.p16, ?_⟩
  · rw [e4] at hk
    rw [el, upd_n (by omega)]
    exact ⟨hok.l hk, hok.l1 hk, hok.l16 hk⟩
  · rcases ha with rfl | rfl
    · exact hok.c
    · exact hv rfl
theorem rSetN {X : XS} {f : Nat → Int32} (h : Rl X f) {a : Nat} {v : Int32} (ha : (a = 2 ∧ 0 ≤ v.toInt ∧ v.toInt ≤ 100) ∨ (a = 3 ∧ 1 ≤ v.toInt ∧ v.toInt ≤ 3)) : Rl (va_up X 5 (upd (X 5) (a + 2) v)) (upd f a v) := by
  have ha2 : a = 2 ∨ a = 3 := ha.elim (fun q => Or.inl q.1) (fun q => Or.inr q.1)
  have e4 : mn (upd f a v) = mn f := by unfold mn; rw [upd_n (by omega)]
  have e8 : mp (upd f a v) = mp f := by unfold mp; rw [upd_n (by omega)]
  have el : ∀ k, ml (upd f a v) k = ml f k := fun k => by unfold ml; rw [upd_n (by omega)]
  have hM := okM_set h.m (v := v) ha2 (fun q z => by
    rcases ha with t | t
    · omega
    · rw [z, Int32.toInt_zero] at t
      omega)
  have x5 : ∀ j, j ≠ a + 2 → (va_up X 5 (upd (X 5) (a + 2) v)) 5 j = X 5 j := fun j hj => upd_n hj
  have xn2 : xn (va_up X 5 (upd (X 5) (a + 2) v)) = xn X := by unfold xn; rw [x5 0 (by omega)]
  have xp2 : xp (va_up X 5 (upd (X 5) (a + 2) v)) = xp X := by unfold xp; rw [x5 1 (by omega)]
  have xe2 : xE (va_up X 5 (upd (X 5) (a + 2) v)) = xE X := by unfold xE; rw [x5 6 (by omega)]
  have hX : okX (va_up X 5 (upd (X 5) (a + 2) v)) := by
    refine ⟨by rw [xn2, x5 0 (by omega)]; exact h.x.n, by rw [xn2]; exact h.x.n20, h.x.2.2.1, by rw [xp2, x5 1 (by omega)]; exact h.x.p, by rw [xp2]; exact h.x.p16, h.x.2.2.2.2.2.1, h.x.2.2.2.2.2.2⟩
  refine ⟨hX, hM, ⟨?_, fun k hk => ?_, fun k j hk hj => ?_⟩, ⟨?_, ?_, fun k hk => ?_, fun q => ?_⟩, ⟨?_, fun j hj => ?_⟩, ?_⟩
  · rw [e4, xn2]; exact h.n
  · rw [el]; rw [xn2] at hk; exact h.l hk
  · rw [xn2] at hk
    have e : mSg (upd f a v) k j = mSg f k j := by unfold mSg; exact upd_n (by omega)
    rw [e]
    exact h.N.2.2 k j hk hj
  · rw [xe2, x5 6 (by omega)]; exact h.E.1
  · rw [xe2, xn2]; exact h.E.2.1
  · rw [xn2] at hk
    rw [xe2]
    have e : mE (upd f a v) k = mE f k := by unfold mE; exact upd_n (by omega)
    rw [e]
    exact h.E.2.2.1 k hk
  · rw [xe2] at q
    rw [x5 7 (by omega), upd_n (by omega)]
    exact h.E.2.2.2 q
  · rw [xp2, e8]; exact h.P.1
  · rw [xp2] at hj
    rw [upd_n (by omega), upd_n (by omega), upd_n (by omega)]
    exact h.P.2 j hj
  · obtain ⟨⟨s2, s3, s4, s5, s8, s9⟩, b0, b1, b2, b3⟩ := h.S
    rcases ha with ⟨rfl, hv⟩ | ⟨rfl, hv⟩
    · exact ⟨⟨s2, s3, rfl, s5, s8, s9⟩, b0, b1, hv, b3⟩
    · exact ⟨⟨s2, s3, s4, rfl, s8, s9⟩, b0, b1, b2, hv⟩
