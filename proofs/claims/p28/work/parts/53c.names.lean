/-! ===== rows for the law's names ===== -/
theorem b2i_k0 {b : Bool} (h : ¬ b2i b = 1) : nI 0 = b2i b := by rw [b2i_n1 h]; rfl
theorem b2i_k1 {b : Bool} (h : b2i b = 1) : nI 1 = b2i b := by rw [b2i_1' h]; rfl
theorem dE_2 {X : XS} {k : Nat} (h : xFits X k (xSize X) = true) (h2 : xEb X k = true) : -1005 = dE X k := by
  unfold dE
  rw [if_neg (by rw [h]; decide), if_pos h2]
theorem dE_3 {X : XS} {k : Nat} (h : xFits X k (xSize X) = true) (h2 : xEb X k = false) : yName X (nI k) 5 = dE X k := by
  unfold dE
  rw [if_neg (by rw [h]; decide), if_neg (by rw [h2]; decide)]
theorem dR_1 {X : XS} {f : Nat → Int32} (hr : Rl X f) {k : Nat} (hk : k < xn X) (h : anyE X k (xn X - k) = true) : -1004 = dR X k := by
  rw [anyE_f hr hk] at h
  exact (if_pos h).symm
theorem dR_2 {X : XS} {f : Nat → Int32} (hr : Rl X f) {k : Nat} (hk : k < xn X) (h : anyE X k (xn X - k) = false) : nI (xn X - 1) = dR X k := by
  rw [anyE_f hr hk] at h
  exact (if_neg (by rw [h]; decide)).symm
theorem e01_1 {p q : Bool} (h1 : p = false) (h2 : b2i q = 1) : nI 1 = nI (if p = false ∧ q = true then 1 else 0) := by rw [if_pos ⟨h1, b2i_1' h2⟩]
theorem e01_2 {p q : Bool} (h : p = true) : nI 0 = nI (if p = false ∧ q = true then 1 else 0) := by rw [if_neg (fun z => by rw [h] at z; cases z.1)]
theorem e01_3 {p q : Bool} (h : ¬ b2i q = 1) : nI 0 = nI (if p = false ∧ q = true then 1 else 0) := by rw [if_neg (fun z => by rw [b2i_n1 h] at z; cases z.2)]
