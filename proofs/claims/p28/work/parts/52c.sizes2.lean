/-! ===== the law's search of the size ===== -/
def zI (X : XS) (s : Nat) : Prop := s ≤ 40 ∧ (xn X = 0 → s = 40) ∧ (0 < xn X → zF X = xGrN X (X 5 2) (X 5 3) (nI (xn X)) (xMost X (-1)) s)
theorem zI_0 {X : XS} (h : okX X) : zI X 40 := ⟨Nat.le_refl _, fun _ => rfl, fun q => by
  have hn := h.n20
  unfold zF xGr
  rw [if_neg (fun z => by have := (nI_z (show xn X < 2147483648 by omega)).mp z; omega)]⟩
theorem zI_n {X : XS} {s : Nat} (h : zI X s) (q : xn X = 0) : zF X = nI s := by
  rw [h.2.1 q]
  unfold zF xGr
  rw [q]
  rfl
theorem zI_z {X : XS} {s : Nat} (h : zI X s) (q : s = 0) : zF X = nI s := by
  rcases Nat.eq_zero_or_pos (xn X) with z | z
  · exact zI_n h z
  · rw [h.2.2 z, q]
    rfl
theorem z_ft (X : XS) (z : Int32) : xFt X (X 5 2) (X 5 3) (nI (xn X)) (xMost X (-1)) z = true ↔ ¬ xCw X (X 5 2) < xMostN X (-1) (xn X) * z ∧ ¬ X 5 3 - 2 * X 5 4 < 12 * z * xRows X (nI (xn X)) := by
  unfold xFt xMost
  rw [show 12 * xRows X (nI (xn X)) * z = 12 * z * xRows X (nI (xn X)) by rw [Int32.mul_assoc, Int32.mul_comm (xRows X (nI (xn X))) z, ← Int32.mul_assoc]]
  simp only [Bool.and_eq_true, Bool.not_eq_true', decide_eq_false_iff_not]
theorem zI_f {X : XS} {s : Nat} (h : zI X s) (hs : 0 < s) (hn : 0 < xn X) (q1 : ¬ xCw X (X 5 2) < xMostN X (-1) (xn X) * nI s) (q2 : 12 * nI s * xRows X (nI (xn X)) ≤ X 5 3 - 2 * X 5 4) : zF X = nI s := by
  rw [h.2.2 hn]
  obtain ⟨t, rfl⟩ : ∃ t, s = t + 1 := ⟨s - 1, by omega⟩
  exact if_pos ((z_ft X _).mpr ⟨q1, Int32.not_lt.mpr q2⟩)
theorem zI_s {X : XS} {s : Nat} (h : zI X s) (hs : 0 < s) (hn : 0 < xn X) (q : xCw X (X 5 2) < xMostN X (-1) (xn X) * nI s ∨ ¬ 12 * nI s * xRows X (nI (xn X)) ≤ X 5 3 - 2 * X 5 4) : zI X (s - 1) := by
  have h40 := h.1
  refine ⟨by omega, fun z => by omega, fun _ => ?_⟩
  rw [h.2.2 hn]
  obtain ⟨t, rfl⟩ : ∃ t, s = t + 1 := ⟨s - 1, by omega⟩
  refine if_neg (fun y => ?_)
  obtain ⟨y1, y2⟩ := (z_ft X _).mp y
  rcases q with q | q
  · exact y1 q
  · exact q (Int32.not_lt.mp y2)
