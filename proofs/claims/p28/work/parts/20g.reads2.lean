/-! ===== more that is asked ===== -/
theorem inR_f {v a b : Int32} : inR v a b = false ↔ v < a ∨ b < v := by
  unfold inR
  by_cases h : v < a
  · simp [h]
  · simp [h]
theorem rLeast {X : XS} {f : Nat → Int32} (h : Rl X f) (z : Int32) : yLeast X z = mLeast f z := by
  unfold yLeast mLeast
  rw [h.n]
  have hk : yLeastK X z = mLeastK f z := by
    unfold yLeastK mLeastK
    rw [rMost h, h.S.1.2.2.1, h.S.1.2.2.2.1, Int32.mul_assoc, Int32.mul_comm (f 3), Int32.add_comm]
  by_cases q : inR z 1 40 = false
  · rw [if_pos q, if_pos ((inR_f.mp q).elim Or.inl (fun z => Or.inr (Int32.not_le.mpr z)))]
  · rw [if_neg q, if_neg (fun z => q (inR_f.mpr (z.elim Or.inl (fun z => Or.inr (Int32.not_le.mp z)))))]
    by_cases n0 : mn f = 0
    · rw [if_pos n0, if_pos n0]
    · rw [if_neg n0, if_neg n0, hk]
      unfold imax
      by_cases t : 300 < mLeastK f z
      · rw [if_pos t, if_pos (Int32.le_of_lt t)]
      · rw [if_neg t]
        by_cases t2 : 300 ≤ mLeastK f z
        · rw [if_pos t2]
          exact Int32.le_antisymm t2 (Int32.not_lt.mp t)
        · rw [if_neg t2]
theorem w02 {w : Int32} (h : ¬ inR w 0 2 = false) : w = 0 ∨ w = 1 ∨ w = 2 := by
  have h2 : inR w 0 2 = true := by
    cases q : inR w 0 2 with
    | true => rfl
    | false => exact absurd q h
  have hb := inR_b h2
  rw [show (0 : Int32).toInt = 0 by decide, show (2 : Int32).toInt = 2 by decide] at hb
  rcases (show w.toInt = 0 ∨ w.toInt = 1 ∨ w.toInt = 2 by omega) with q | q | q
  · exact Or.inl (Int32.toInt_inj.mp (q.trans (by decide)))
  · exact Or.inr (Or.inl (Int32.toInt_inj.mp (q.trans (by decide))))
  · exact Or.inr (Or.inr (Int32.toInt_inj.mp (q.trans (by decide))))
theorem rPair {X : XS} {f : Nat → Int32} (h : Rl X f) (place w : Int32) : yPair X place w = mPair f place w := by
  have hp := h.x.p16
  have hP := h.P
  unfold yPair mPair
  by_cases q : place < 0 ∨ inR w 0 2 = false
  · rw [if_pos q, if_pos (q.elim Or.inl (fun z => Or.inr ((inR_f.mp z).elim Or.inl (fun z => Or.inr (Int32.not_le.mpr z)))))]
  · rw [if_neg q, if_neg (fun z => q (z.elim Or.inl (fun z => Or.inr (inR_f.mpr (z.elim Or.inl (fun z => Or.inr (Int32.not_le.mp z)))))))]
    have hw := w02 (fun z => q (Or.inr z))
    obtain ⟨j, hj, rfl⟩ := nI_of (fun z => q (Or.inl z))
    rw [nI_clamp hj, ← hP.1]
    by_cases t : j < xp X
    · rw [xIp_in hp t, if_neg (by decide), if_pos ((nI_ltI (by omega) (by omega)).mpr t)]
      obtain ⟨⟨a1, a2, a3⟩, -⟩ := hP.2 j t
      rcases hw with rfl | rfl | rfl
      · exact a1
      · exact a2
      · exact a3
    · rw [xIp_out hp (Nat.not_lt.mp t) hj, if_pos rfl, if_neg (fun z => t ((nI_ltI (by omega) (by omega)).mp z))]
theorem rCount {Y : Nat → XS} {M : XS} (h : Rl (Y 5) (M 0)) (h1 : Y 7 5 1 = M 4 0) (h2 : Y 7 5 2 = M 4 2) (w : Int32) : yCount Y w = mCount M w := by
  have hn := h.x.n20
  have e4 : Y 5 5 0 = M 0 4 := by rw [h.x.n, h.m.n, h.n]
  have e9 : Y 5 5 1 = M 0 8 := by rw [h.x.p, h.m.p, h.P.1]
  unfold yCount mCount
  rw [h.S.1.1, h.S.1.2.1, h.S.1.2.2.1, h.S.1.2.2.2.1, e4, rBc h, h.S.1.2.2.2.2.1, h.S.1.2.2.2.2.2, e9, h1, h2, rRows h.S (by rw [h.m.n, ← h.n, nI_toInt (by omega)]; omega)]
theorem rSignJ {X : XS} {f : Nat → Int32} (h : Rl X f) {k j : Nat} (hk : k < xn X) (hj : j < xl X k) (w : Int32) : ySignK X k j w = mSignJ f k j w := by
  unfold ySignK mSignJ ySb xMs
  rw [h.sg hk hj, rUb h hk hj, rW (h.sok hk hj), h.l hk, rSize h, rBeg h hk]
  by_cases h0 : w = 0
  · subst h0; simp
  by_cases h1 : w = 1
  · subst h1; simp
  by_cases h2 : w = 2
  · subst h2; simp
  by_cases h3 : w = 3
  · subst h3
    by_cases q : j = ml f k - 1
    · simp [q]
    · have hj2 : j + 1 < xl X k := by rw [h.l hk] at hj ⊢; omega
      simp [q, rSp h hk hj2]
  by_cases h4 : w = 4
  · subst h4
    by_cases q : j = ml f k - 1
    · simp [q]
    · have hj2 : j + 1 < xl X k := by rw [h.l hk] at hj ⊢; omega
      simp [q, rSp h hk hj2, rO (h.sok hk hj), h.sg hk hj2, rO (h.sok hk hj2), Int32.add_assoc]
  by_cases h5 : w = 5
  · subst h5
    by_cases z : mSize f = 0
    · simp [z]
    · simp [z, Int32.mul_comm]
  rw [if_neg h0, if_neg h1, if_neg h2, if_neg h3, if_neg h4, if_neg h5, if_neg (fun q => q.elim h3 h4), if_neg h0, if_neg h1, if_neg h2, if_neg h5]
theorem rSign {X : XS} {f : Nat → Int32} (h : Rl X f) (seat index w : Int32) : ySign X seat index w = mSign f seat index w := by
  have hn := h.x.n20
  unfold ySign mSign
  rw [rTk h]
  cases q : xTk (xn X) seat with
  | false =>
    have e : xIn X seat index = false := by unfold xIn; rw [q]; rfl
    rw [e]
    rfl
  | true =>
    obtain ⟨k, hk, rfl⟩ := xTk_of (by omega) q
    have hl1 := h.l1 hk
    have hl16 := h.x.l16 (show k < 20 by omega)
    rw [nI_clamp (show k < 2147483648 by omega), if_neg (show ¬ (!true) = true by decide)]
    unfold mSignK
    cases z : xIn X (nI k) index with
    | true =>
      obtain ⟨k2, j, hk2, hj, e1, rfl⟩ := xIn_of h.x z
      have : k = k2 := (nI_eq (by omega) (by omega)).mp e1
      subst this
      rw [nI_clamp (show j < 2147483648 by omega), if_neg (by decide), ← h.l hk, inR_in (show xl X k - 1 < 2147483648 by omega) (show j ≤ xl X k - 1 by omega), if_neg (by decide)]
      exact rSignJ h hk hj w
    | false =>
      rw [if_pos rfl]
      cases t : inR index 0 (nI (ml f k - 1)) with
      | false => rfl
      | true =>
        obtain ⟨j, hj, rfl⟩ := inR_of (show ml f k - 1 < 2147483648 by rw [← h.l hk]; omega) t
        rw [xIn_in h.x hk (show j < xl X k by rw [← h.l hk] at hj; omega)] at z
        cases z
