/-! ===== adjust keeps the two of one plate ===== -/
theorem rHp {X : XS} {f : Nat → Int32} (h : Rl X f) {k : Nat} (hk : k < xn X) (a b : Int32) : xHp X k a b = decide (fstN (mCq f a b k) (ml f k - 1) < ml f k - 1) := by
  have hl := h.l hk
  have e : fstN (xCq X a b k) (ml f k - 1) = fstN (mCq f a b k) (ml f k - 1) := fstN_congr (fun j hj => by
    unfold xCq mCq
    rw [h.sg hk (show j < xl X k by omega), h.sg hk (show j + 1 < xl X k by omega)])
  unfold xHp
  rw [hl, e]
theorem rCut {X : XS} {f : Nat → Int32} (h : Rl X f) (a b : Int32) : xCut X a b = mCut f a b := by
  have e : fstN (xCk X a b) (mn f) = fstN (mCk f a b) (mn f) := fstN_congr (fun k hk => by
    have hk2 : k < xn X := by rw [h.n]; exact hk
    unfold xCk mCk
    rw [(rEb h hk2).2, rHp h hk2])
  unfold xCut mCut
  rw [h.n, e]
theorem rlP {X X2 : XS} {f f2 : Nat → Int32} (h : Rl X f) (h0 : X2 0 = X 0) (h1 : X2 1 = X 1) (h5 : ∀ j, j ≠ 1 → X2 5 j = X 5 j) (hf : ∀ q, q < 8 ∨ 57 ≤ q → f2 q = f q) (hn : X2 5 1 = nI (xp X2)) (h16 : xp X2 ≤ 16) (hc : ∀ j, j < 16 → chOk (X2 2 j) ∧ chOk (X2 3 j)) (h8 : f2 8 = nI (xp X2)) (hP : ∀ j, j < xp X2 → (X2 2 j = f2 (9 + 3 * j) ∧ X2 3 j = f2 (9 + 3 * j + 1) ∧ X2 4 j = f2 (9 + 3 * j + 2)) ∧ ¬ X2 4 j = 0 ∧ -3 ≤ (X2 4 j).toInt ∧ (X2 4 j).toInt ≤ 3) : Rl X2 f2 := by
  have en : xn X2 = xn X := by unfold xn; rw [h5 0 (by decide)]
  have el : ∀ k, xl X2 k = xl X k := fun k => by unfold xl; rw [h1]
  have es : ∀ k j, xSg X2 k j = xSg X k j := fun k j => by unfold xSg; rw [h0]
  have ee : xE X2 = xE X := by unfold xE; rw [h5 6 (by decide)]
  have e4 : mn f2 = mn f := by unfold mn; rw [hf 4 (by omega)]
  have ep : mp f2 = xp X2 := by unfold mp; rw [h8, nI_clamp (by omega)]
  have eml : ∀ k, ml f2 k = ml f k := fun k => by unfold ml; rw [hf _ (by omega)]
  have hX : okX X2 := ⟨by rw [en, h5 0 (by decide)]; exact h.x.n, by rw [en]; exact h.x.n20, fun k hk => by rw [el, h1]; exact h.x.2.2.1 k hk, hn, h16, fun j hj => by rw [h0]; exact h.x.c hj, hc⟩
  have hM : okM f2 := ⟨by rw [e4, hf 4 (by omega)]; exact h.m.n, by rw [e4]; exact h.m.n20, fun k hk => by rw [e4] at hk; rw [eml, hf _ (by omega)]; exact h.m.2.2.1 k hk, by rw [ep]; exact h8, by rw [ep]; exact h16, by rw [hf 3 (by omega)]; exact h.m.c⟩
  refine ⟨hX, hM, ⟨by rw [en, e4]; exact h.n, fun k hk => ?_, fun k j hk hj => ?_⟩, ⟨?_, ?_, fun k hk => ?_, fun q => ?_⟩, ⟨ep.symm, hP⟩, ?_⟩
  · rw [en] at hk
    rw [el, eml]
    exact h.l hk
  · rw [en] at hk
    rw [el] at hj
    have e : mSg f2 k j = mSg f k j := by unfold mSg; exact hf _ (by omega)
    rw [es, e]
    exact h.N.2.2 k j hk hj
  · rw [ee, h5 6 (by decide)]; exact h.E.1
  · rw [ee, en]; exact h.E.2.1
  · rw [en] at hk
    have e : mE f2 k = mE f k := by unfold mE; exact hf _ (by omega)
    rw [e, ee]
    exact h.E.2.2.1 k hk
  · rw [ee] at q
    rw [h5 7 (by decide), hf 5 (by omega)]
    exact h.E.2.2.2 q
  · unfold rS
    rw [h5 2 (by decide), h5 3 (by decide), h5 4 (by decide), h5 5 (by decide), h5 8 (by decide), h5 9 (by decide), hf 0 (by omega), hf 1 (by omega), hf 2 (by omega), hf 3 (by omega), hf 6 (by omega), hf 7 (by omega)]
    exact h.S
theorem mPl_at {f : Nat → Int32} {a b : Int32} (h : mPl f a b < mp f) : f (9 + 3 * mPl f a b) = a ∧ f (9 + 3 * mPl f a b + 1) = b := by
  have := fstN_yes (mPq f a b) (mp f) h
  unfold mPq at this
  simp only [Bool.and_eq_true, decide_eq_true_eq] at this
  exact this
theorem rPut {X : XS} {f : Nat → Int32} (h : Rl X f) {a b v : Int32} (ha : xOk a = true) (hb : xOk b = true) (hv : -3 ≤ v.toInt ∧ v.toInt ≤ 3) (hne : ¬ mAdj f a b = v) (h16 : ¬ (mAdj f a b = 0 ∧ mp f = 16)) : Rl (xPut X a b v) (mPut f a b v) := by
  have hp := rPl h.P a b
  have hn := h.P.1
  have hx16 := h.x.p16
  have hle : mPl f a b ≤ mp f := fstN_le _ _
  by_cases q : mPl f a b < mp f
  · have hj : mPl f a b < xp X := by omega
    obtain ⟨⟨p2, p3, p4⟩, pz, pb⟩ := h.P.2 _ hj
    obtain ⟨ea, eb⟩ := mPl_at q
    have hm : mAdj f a b = f (9 + 3 * mPl f a b + 2) := if_pos q
    have hm0 : ¬ mAdj f a b = 0 := by rw [hm, ← p4]; exact pz
    unfold xPut
    rw [hp, if_pos hj]
    by_cases hv0 : v = 0
    · rw [if_pos hv0, mPut_d hv0]
      have lo : ∀ j, j < xp X - 1 → ∀ c, c < 3 → mvN (upd f 8 (nI (mp f - 1))) 3 (9 + 3 * mPl f a b) (3 * (mp f - 1 - mPl f a b)) (9 + 3 * j + c) = if mPl f a b ≤ j then f (9 + 3 * (j + 1) + c) else f (9 + 3 * j + c) := fun j hj2 c hc => by
        unfold mvN upd
        by_cases z : mPl f a b ≤ j
        · rw [if_pos z, if_pos (by omega), if_neg (by omega)]
          congr 1
          omega
        · rw [if_neg z, if_neg (by omega), if_neg (by omega)]
      have sh : ∀ (r : Nat → Int32) (j : Nat), j < xp X - 1 → shN r (mPl f a b) (xp X - (mPl f a b + 1)) j = if mPl f a b ≤ j then r (j + 1) else r j := fun r j hj2 => by
        unfold shN
        by_cases z : mPl f a b ≤ j
        · rw [if_pos z, if_pos (by omega)]
        · rw [if_neg z, if_neg (by omega)]
      have exp : xp (xPt X (mPl f a b)) = xp X - 1 := by
        show (nI (xp X - 1)).toNatClampNeg = _
        exact nI_clamp (by omega)
      have chs : ∀ (r : Nat → Int32), (∀ j, j < 16 → chOk (r j)) → ∀ j, j < 16 → chOk (shN r (mPl f a b) (xp X - (mPl f a b + 1)) j) := fun r hr j hj2 => by
        unfold shN
        split
        · exact hr _ (by omega)
        · exact hr _ hj2
      refine rlP h rfl rfl (fun j hj2 => upd_n hj2) (fun i hi => ?_) ?_ ?_ (fun j hj2 => ⟨chs _ (fun i hi => h.x.lc hi) j hj2, chs _ (fun i hi => h.x.rc hi) j hj2⟩) ?_ (fun j hj2 => ?_)
      · unfold mvN upd
        rw [if_neg (by omega), if_neg (by omega)]
      · rw [exp]; rfl
      · rw [exp]; omega
      · rw [exp]
        unfold mvN upd
        rw [if_neg (by omega), if_pos rfl, hn]
      · rw [exp] at hj2
        have l0 := lo j hj2 0 (by decide)
        have l1 := lo j hj2 1 (by decide)
        have l2 := lo j hj2 2 (by decide)
        rw [Nat.add_zero] at l0
        rw [l0, l1, l2]
        show (shN (X 2) (mPl f a b) (xp X - (mPl f a b + 1)) j = _ ∧ shN (X 3) (mPl f a b) (xp X - (mPl f a b + 1)) j = _ ∧ shN (X 4) (mPl f a b) (xp X - (mPl f a b + 1)) j = _) ∧ ¬ shN (X 4) (mPl f a b) (xp X - (mPl f a b + 1)) j = 0 ∧ -3 ≤ (shN (X 4) (mPl f a b) (xp X - (mPl f a b + 1)) j).toInt ∧ (shN (X 4) (mPl f a b) (xp X - (mPl f a b + 1)) j).toInt ≤ 3
        rw [sh _ j hj2, sh _ j hj2, sh _ j hj2]
        by_cases z : mPl f a b ≤ j
        · rw [if_pos z, if_pos z, if_pos z, if_pos z, if_pos z, if_pos z]
          exact h.P.2 (j + 1) (by omega)
        · rw [if_neg z, if_neg z, if_neg z, if_neg z, if_neg z, if_neg z]
          exact h.P.2 j (by omega)
    · rw [if_neg hv0, mPut_o hv0 hm0]
      refine rlP h rfl rfl (fun j _ => rfl) (fun i hi => ?_) h.x.p h.x.p16 (fun j hj2 => h.x.2.2.2.2.2.2 j hj2) ?_ (fun j hj2 => ?_)
      · rw [upd_n (by omega), upd_n (by omega), upd_n (by omega), upd_n (by omega)]
      · rw [upd_n (by omega), upd_n (by omega), upd_n (by omega)]
        show nI (mp f + 0) = nI (xp X)
        rw [hn]
        rfl
      · have hj3 : j < xp X := hj2
        obtain ⟨⟨r2, r3, r4⟩, rz, rb⟩ := h.P.2 j hj3
        show (X 2 j = _ ∧ X 3 j = _ ∧ upd (X 4) (mPl f a b) v j = _) ∧ ¬ upd (X 4) (mPl f a b) v j = 0 ∧ -3 ≤ (upd (X 4) (mPl f a b) v j).toInt ∧ (upd (X 4) (mPl f a b) v j).toInt ≤ 3
        by_cases z : j = mPl f a b
        · subst z
          have u : upd (X 4) (mPl f a b) v (mPl f a b) = v := if_pos rfl
          have u0 : upd (upd (upd (upd f 8 (nI (mp f + 0))) (9 + 3 * mPl f a b) a) (9 + 3 * mPl f a b + 1) b) (9 + 3 * mPl f a b + 2) v (9 + 3 * mPl f a b) = a := by
            rw [upd_n (by omega), upd_n (by omega)]
            exact if_pos rfl
          have u1 : upd (upd (upd (upd f 8 (nI (mp f + 0))) (9 + 3 * mPl f a b) a) (9 + 3 * mPl f a b + 1) b) (9 + 3 * mPl f a b + 2) v (9 + 3 * mPl f a b + 1) = b := by
            rw [upd_n (by omega)]
            exact if_pos rfl
          have u2 : upd (upd (upd (upd f 8 (nI (mp f + 0))) (9 + 3 * mPl f a b) a) (9 + 3 * mPl f a b + 1) b) (9 + 3 * mPl f a b + 2) v (9 + 3 * mPl f a b + 2) = v := if_pos rfl
          rw [u, u0, u1, u2]
          exact ⟨⟨r2.trans ea, r3.trans eb, rfl⟩, hv0, hv⟩
        · rw [upd_n (f := X 4) z]
          have g : ∀ c, c < 3 → upd (upd (upd (upd f 8 (nI (mp f + 0))) (9 + 3 * mPl f a b) a) (9 + 3 * mPl f a b + 1) b) (9 + 3 * mPl f a b + 2) v (9 + 3 * j + c) = f (9 + 3 * j + c) := fun c hc => by
            rw [upd_n (by omega), upd_n (by omega), upd_n (by omega), upd_n (by omega)]
          have g0 := g 0 (by decide)
          rw [show 9 + 3 * j + 0 = 9 + 3 * j from rfl] at g0
          rw [g0, g 1 (by decide), g 2 (by decide)]
          exact ⟨⟨r2, r3, r4⟩, rz, rb⟩
  · have hm0 : mAdj f a b = 0 := if_neg q
    have hv0 : ¬ v = 0 := fun z => hne (by rw [hm0, z])
    have hmp : ¬ mp f = 16 := fun z => h16 ⟨hm0, z⟩
    unfold xPut
    rw [hp, if_neg (by omega), if_neg hv0, mPut_n hv0 hm0]
    have exp : xp (xPa X a b v) = xp X + 1 := by
      show (nI (xp X + 1)).toNatClampNeg = _
      exact nI_clamp (by omega)
    have chu : ∀ (r : Nat → Int32) (c : Int32), chOk c → (∀ j, j < 16 → chOk (r j)) → ∀ j, j < 16 → chOk (upd r (xp X) c j) := fun r c hc hr j hj2 => by
      unfold upd
      split
      · exact hc
      · exact hr _ hj2
    refine rlP h rfl rfl (fun j hj2 => upd_n hj2) (fun i hi => ?_) ?_ ?_ (fun j hj2 => ⟨chu _ _ (chOk_ok ha) (fun i hi => h.x.lc hi) j hj2, chu _ _ (chOk_ok hb) (fun i hi => h.x.rc hi) j hj2⟩) ?_ (fun j hj2 => ?_)
    · rw [upd_n (by omega), upd_n (by omega), upd_n (by omega), upd_n (by omega)]
    · rw [exp]; rfl
    · rw [exp]; omega
    · rw [upd_n (by omega), upd_n (by omega), upd_n (by omega), exp, hn]
      exact if_pos rfl
    · rw [exp] at hj2
      show (upd (X 2) (xp X) a j = _ ∧ upd (X 3) (xp X) b j = _ ∧ upd (X 4) (xp X) v j = _) ∧ ¬ upd (X 4) (xp X) v j = 0 ∧ -3 ≤ (upd (X 4) (xp X) v j).toInt ∧ (upd (X 4) (xp X) v j).toInt ≤ 3
      by_cases z : j = xp X
      · have u : ∀ (r : Nat → Int32) (c : Int32), upd r (xp X) c j = c := fun r c => if_pos z
        rw [u, u, u, z, hn]
        have u0 : upd (upd (upd (upd f 8 (nI (mp f + 1))) (9 + 3 * mp f) a) (9 + 3 * mp f + 1) b) (9 + 3 * mp f + 2) v (9 + 3 * mp f) = a := by
          rw [upd_n (by omega), upd_n (by omega)]
          exact if_pos rfl
        have u1 : upd (upd (upd (upd f 8 (nI (mp f + 1))) (9 + 3 * mp f) a) (9 + 3 * mp f + 1) b) (9 + 3 * mp f + 2) v (9 + 3 * mp f + 1) = b := by
          rw [upd_n (by omega)]
          exact if_pos rfl
        have u2 : upd (upd (upd (upd f 8 (nI (mp f + 1))) (9 + 3 * mp f) a) (9 + 3 * mp f + 1) b) (9 + 3 * mp f + 2) v (9 + 3 * mp f + 2) = v := if_pos rfl
        rw [u0, u1, u2]
        exact ⟨⟨rfl, rfl, rfl⟩, hv0, hv⟩
      · rw [upd_n (f := X 2) z, upd_n (f := X 3) z, upd_n (f := X 4) z]
        have g : ∀ c, c < 3 → upd (upd (upd (upd f 8 (nI (mp f + 1))) (9 + 3 * mp f) a) (9 + 3 * mp f + 1) b) (9 + 3 * mp f + 2) v (9 + 3 * j + c) = f (9 + 3 * j + c) := fun c hc => by
          rw [upd_n (by omega), upd_n (by omega), upd_n (by omega), upd_n (by omega)]
        have g0 := g 0 (by decide)
        rw [show 9 + 3 * j + 0 = 9 + 3 * j from rfl] at g0
        rw [g0, g 1 (by decide), g 2 (by decide)]
        exact h.P.2 j (by omega)
