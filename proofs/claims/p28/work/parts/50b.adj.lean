/-! ===== adjust: the pairs keep being different, and what the table says of a pair ===== -/
theorem adj_at {X : XS} (h : vP X) {j : Nat} (hj : j < xp X) : xAdj X (X 2 j) (X 3 j) = X 4 j := by
  have e : xPl X (X 2 j) (X 3 j) = j := by
    refine fstN_eq (Nat.le_of_lt hj) (fun i hi => ?_) (fun _ => ?_)
    · have := h.2 i j hi hj
      unfold xPq
      rw [Bool.and_eq_false_iff]
      rcases Classical.em (X 2 i = X 2 j) with q | q
      · exact Or.inr (decide_eq_false (fun z => this ⟨q, z⟩))
      · exact Or.inl (decide_eq_false q)
    · unfold xPq
      rw [decide_eq_true rfl, decide_eq_true rfl]
      rfl
  unfold xAdj xAt
  rw [e, if_pos hj]
theorem adj_no {X : XS} {a b : Int32} (h : ∀ j, j < xp X → ¬ (X 2 j = a ∧ X 3 j = b)) : xAdj X a b = 0 := by
  have e : xPl X a b = xp X := by
    refine fstN_eq (Nat.le_refl _) (fun i hi => ?_) (fun q => absurd q (Nat.lt_irrefl _))
    unfold xPq
    rw [Bool.and_eq_false_iff]
    rcases Classical.em (X 2 i = a) with q | q
    · exact Or.inr (decide_eq_false (fun z => h i hi ⟨q, z⟩))
    · exact Or.inl (decide_eq_false q)
  unfold xAdj xAt
  rw [e, if_neg (Nat.lt_irrefl _)]
theorem adj_is {X : XS} (h : vP X) {a b : Int32} {j : Nat} (hj : j < xp X) (ha : X 2 j = a) (hb : X 3 j = b) : xAdj X a b = X 4 j := by
  rw [← ha, ← hb]
  exact adj_at h hj
theorem pl_at {X : XS} {a b : Int32} (h : xPl X a b < xp X) : X 2 (xPl X a b) = a ∧ X 3 (xPl X a b) = b := by
  have := fstN_yes (xPq X a b) (xp X) h
  unfold xPq at this
  simp only [Bool.and_eq_true, decide_eq_true_eq] at this
  exact this
theorem pl_no {X : XS} {a b : Int32} (h : ¬ xPl X a b < xp X) : ∀ j, j < xp X → ¬ (X 2 j = a ∧ X 3 j = b) := fun j hj q => by
  have hle : xPl X a b ≤ xp X := fstN_le _ _
  have := fstN_no (xPq X a b) (xp X) j (by show j < xPl X a b; omega)
  unfold xPq at this
  rw [decide_eq_true q.1, decide_eq_true q.2] at this
  cases this
/-- rows of X2 are rows of X at places that grow -/
theorem vP_mono {X X2 : XS} (h : vP X) (σ : Nat → Nat) (hs : ∀ j, j < xp X2 → σ j < xp X) (hm : ∀ i j, i < j → σ i < σ j) (h2 : ∀ j, j < xp X2 → X2 2 j = X 2 (σ j)) (h3 : ∀ j, j < xp X2 → X2 3 j = X 3 (σ j)) : vP X2 := by
  refine ⟨fun j hj => ?_, fun i j hij hj => ?_⟩
  · rw [h2 j hj, h3 j hj]
    exact h.1 _ (hs j hj)
  · rw [h2 j hj, h3 j hj, h2 i (by omega), h3 i (by omega)]
    exact h.2 _ _ (hm i j hij) (hs j hj)
theorem sh_at (r : Nat → Int32) (p t j : Nat) : shN r p t j = if p ≤ j ∧ j < p + t then r (j + 1) else r j := rfl
theorem xp_pt {X : XS} {p : Nat} (hp : p < xp X) (h16 : xp X ≤ 16) : xp (xPt X p) = xp X - 1 := by
  show (nI (xp X - 1)).toNatClampNeg = _
  exact nI_clamp (by omega)
theorem vP_pt {X : XS} (h : vP X) {p : Nat} (hp : p < xp X) (h16 : xp X ≤ 16) : vP (xPt X p) := by
  have e := xp_pt hp h16
  have sh : ∀ (r : Nat → Int32) (j : Nat), j < xp X - 1 → shN r p (xp X - (p + 1)) j = r (if p ≤ j then j + 1 else j) := fun r j hj => by
    rw [sh_at]
    by_cases z : p ≤ j
    · rw [if_pos z, if_pos (by omega)]
    · rw [if_neg z, if_neg (by omega)]
  refine vP_mono h (fun j => if p ≤ j then j + 1 else j) (fun j hj => ?_) (fun i j hij => ?_) (fun j hj => ?_) (fun j hj => ?_)
  · rw [e] at hj
    show (if p ≤ j then j + 1 else j) < xp X
    split <;> omega
  · show (if p ≤ i then i + 1 else i) < (if p ≤ j then j + 1 else j)
    split <;> split <;> omega
  · rw [e] at hj
    exact sh (X 2) j hj
  · rw [e] at hj
    exact sh (X 3) j hj
theorem xp_pa {X : XS} {a b v : Int32} (h16 : xp X < 16) : xp (xPa X a b v) = xp X + 1 := by
  show (nI (xp X + 1)).toNatClampNeg = _
  exact nI_clamp (by omega)
theorem pa_lo {X : XS} {a b v : Int32} {j : Nat} (hj : j < xp X) : xPa X a b v 2 j = X 2 j ∧ xPa X a b v 3 j = X 3 j ∧ xPa X a b v 4 j = X 4 j := by
  have hne : j ≠ xp X := by omega
  exact ⟨upd_n (f := X 2) hne, upd_n (f := X 3) hne, upd_n (f := X 4) hne⟩
theorem pa_hi {X : XS} {a b v : Int32} : xPa X a b v 2 (xp X) = a ∧ xPa X a b v 3 (xp X) = b ∧ xPa X a b v 4 (xp X) = v := by
  have u : ∀ (r : Nat → Int32) (c : Int32), upd r (xp X) c (xp X) = c := fun r c => if_pos rfl
  exact ⟨u _ _, u _ _, u _ _⟩
theorem vP_pa {X : XS} (h : vP X) {a b v : Int32} (ha : xOk a = true) (hb : xOk b = true) (h16 : xp X < 16) (hno : ∀ j, j < xp X → ¬ (X 2 j = a ∧ X 3 j = b)) : vP (xPa X a b v) := by
  have e := xp_pa (X := X) (a := a) (b := b) (v := v) h16
  refine ⟨fun j hj => ?_, fun i j hij hj => ?_⟩
  · rw [e] at hj
    by_cases z : j = xp X
    · subst z
      rw [pa_hi.1, pa_hi.2.1]
      exact ⟨ha, hb⟩
    · rw [(pa_lo (by omega)).1, (pa_lo (by omega)).2.1]
      exact h.1 j (by omega)
  · rw [e] at hj
    rw [(pa_lo (show i < xp X by omega)).1, (pa_lo (show i < xp X by omega)).2.1]
    by_cases z : j = xp X
    · subst z
      rw [pa_hi.1, pa_hi.2.1]
      exact hno i hij
    · rw [(pa_lo (by omega)).1, (pa_lo (by omega)).2.1]
      exact h.2 i j hij (by omega)
theorem vP_v {X : XS} (h : vP X) {p : Nat} {v : Int32} : vP (va_up X 4 (upd (X 4) p v)) := vP_cg h rfl rfl rfl
/-- the table behind adjust -/
theorem put_all {X : XS} (h : vP X) {a b v : Int32} (ha : xOk a = true) (hb : xOk b = true) (hp16 : xp X ≤ 16) (hf : xPl X a b < xp X ∨ v = 0 ∨ xp X < 16) : vP (xPut X a b v) ∧ xAdj (xPut X a b v) a b = v ∧ ∀ c d, ¬ (c = a ∧ d = b) → xAdj (xPut X a b v) c d = xAdj X c d := by
  by_cases q : xPl X a b < xp X
  · obtain ⟨pa, pb⟩ := pl_at q
    have nx : ∀ j, j < xp X → j ≠ xPl X a b → ¬ (X 2 j = a ∧ X 3 j = b) := fun j hj hne z => by
      rcases Nat.lt_or_gt_of_ne hne with y | y
      · exact h.2 j _ y q ⟨z.1.trans pa.symm, z.2.trans pb.symm⟩
      · exact h.2 _ j y hj ⟨pa.trans z.1.symm, pb.trans z.2.symm⟩
    unfold xPut
    rw [if_pos q]
    by_cases v0 : v = 0
    · rw [if_pos v0]
      have hv := vP_pt h q hp16
      have e := xp_pt q hp16
      generalize xPl X a b = p at *
      have r2 : ∀ j, xPt X p 2 j = shN (X 2) p (xp X - (p + 1)) j := fun _ => rfl
      have r3 : ∀ j, xPt X p 3 j = shN (X 3) p (xp X - (p + 1)) j := fun _ => rfl
      have r4 : ∀ j, xPt X p 4 j = shN (X 4) p (xp X - (p + 1)) j := fun _ => rfl
      refine ⟨hv, ?_, fun c d hcd => ?_⟩
      · rw [v0]
        refine adj_no (fun j hj => ?_)
        rw [e] at hj
        rw [r2, r3, sh_at, sh_at]
        split
        · exact nx _ (by omega) (by omega)
        · exact nx _ (by omega) (by omega)
      · by_cases z : ∃ j, j < xp X ∧ X 2 j = c ∧ X 3 j = d
        · obtain ⟨j, hj, jc, jd⟩ := z
          rw [adj_is h hj jc jd]
          have hne : j ≠ p := fun y => hcd ⟨by rw [← jc, y, pa], by rw [← jd, y, pb]⟩
          by_cases y : j < p
          · rw [adj_is hv (j := j) (by rw [e]; omega) (by rw [r2, sh_at, if_neg (by omega)]; exact jc) (by rw [r3, sh_at, if_neg (by omega)]; exact jd), r4, sh_at, if_neg (by omega)]
          · have ej : j - 1 + 1 = j := by omega
            rw [adj_is hv (j := j - 1) (by rw [e]; omega) (by rw [r2, sh_at, if_pos (by omega), ej]; exact jc) (by rw [r3, sh_at, if_pos (by omega), ej]; exact jd), r4, sh_at, if_pos (by omega), ej]
        · rw [adj_no (X := X) (fun j hj y => z ⟨j, hj, y⟩)]
          refine adj_no (fun j hj y => ?_)
          rw [e] at hj
          rw [r2, r3, sh_at, sh_at] at y
          split at y
          · exact z ⟨_, by omega, y⟩
          · exact z ⟨_, by omega, y⟩
    · rw [if_neg v0]
      have hv := vP_v h (p := xPl X a b) (v := v)
      refine ⟨hv, ?_, fun c d hcd => ?_⟩
      · rw [adj_is hv (j := xPl X a b) q pa pb]
        exact if_pos rfl
      · by_cases z : ∃ j, j < xp X ∧ X 2 j = c ∧ X 3 j = d
        · obtain ⟨j, hj, jc, jd⟩ := z
          rw [adj_is h hj jc jd, adj_is hv (j := j) hj jc jd]
          have hne : j ≠ xPl X a b := fun y => hcd ⟨by rw [← jc, y, pa], by rw [← jd, y, pb]⟩
          exact if_neg hne
        · rw [adj_no (X := X) (fun j hj y => z ⟨j, hj, y⟩)]
          exact adj_no (fun j hj y => z ⟨j, hj, y⟩)
  · have hno := pl_no q
    unfold xPut
    rw [if_neg q]
    by_cases v0 : v = 0
    · rw [if_pos v0, v0]
      exact ⟨h, adj_no hno, fun _ _ _ => rfl⟩
    · rw [if_neg v0]
      have h16 : xp X < 16 := by
        rcases hf with z | z | z
        · exact absurd z q
        · exact absurd z v0
        · exact z
      have hv := vP_pa (v := v) h ha hb h16 hno
      have e := xp_pa (X := X) (a := a) (b := b) (v := v) h16
      refine ⟨hv, ?_, fun c d hcd => ?_⟩
      · rw [adj_is hv (j := xp X) (by rw [e]; omega) pa_hi.1 pa_hi.2.1]
        exact pa_hi.2.2
      · by_cases z : ∃ j, j < xp X ∧ X 2 j = c ∧ X 3 j = d
        · obtain ⟨j, hj, jc, jd⟩ := z
          obtain ⟨l2, l3, l4⟩ := pa_lo (a := a) (b := b) (v := v) hj
          rw [adj_is h hj jc jd, adj_is hv (j := j) (by rw [e]; omega) (l2.trans jc) (l3.trans jd), l4]
        · rw [adj_no (X := X) (fun j hj y => z ⟨j, hj, y⟩)]
          refine adj_no (fun j hj y => ?_)
          rw [e] at hj
          by_cases w : j = xp X
          · subst w
            rw [pa_hi.1, pa_hi.2.1] at y
            exact hcd ⟨y.1.symm, y.2.symm⟩
          · obtain ⟨l2, l3, _⟩ := pa_lo (X := X) (a := a) (b := b) (v := v) (j := j) (by omega)
            rw [l2, l3] at y
            exact z ⟨j, by omega, y⟩
theorem hp_no {X : XS} {k : Nat} {a b : Int32} (h : xHp X k a b = false) : ∀ j, j + 1 < xl X k → ¬ (xSg X k j = a ∧ xSg X k (j + 1) = b) := fun j hj q => by
  unfold xHp at h
  have h2 := of_decide_eq_false h
  have hle := fstN_le (xCq X a b k) (xl X k - 1)
  have := fstN_no (xCq X a b k) (xl X k - 1) j (by omega)
  unfold xCq at this
  rw [decide_eq_true q.1, decide_eq_true q.2] at this
  cases this
theorem cut_no {X : XS} {a b : Int32} (h : xCut X a b = false) {k : Nat} (hk : k < xn X) (he : xEb X k = true) : xHp X k a b = false := by
  unfold xCut at h
  have h2 := of_decide_eq_false h
  have hle := fstN_le (xCk X a b) (xn X)
  have := fstN_no (xCk X a b) (xn X) k (by omega)
  unfold xCk at this
  rw [he, Bool.true_and] at this
  exact this
theorem put_rest {X : XS} {a b v : Int32} : xPut X a b v 0 = X 0 ∧ xPut X a b v 1 = X 1 ∧ ∀ j, j ≠ 1 → xPut X a b v 5 j = X 5 j := by
  unfold xPut
  split
  · split
    · exact ⟨rfl, rfl, fun j hj => upd_n hj⟩
    · exact ⟨rfl, rfl, fun _ _ => rfl⟩
  · split
    · exact ⟨rfl, rfl, fun _ _ => rfl⟩
    · exact ⟨rfl, rfl, fun j hj => upd_n hj⟩
theorem vX_put {X : XS} {f : Nat → Int32} (hr : Rl X f) (h : vX X) {a b v : Int32} (ha : xOk a = true) (hb : xOk b = true) (hf : xPl X a b < xp X ∨ v = 0 ∨ xp X < 16) (hc : xCut X a b = false) : vX (xPut X a b v) := by
  have hn := hr.x.n20
  obtain ⟨p1, p2, p3⟩ := put_all h.P ha hb hr.x.p16 hf
  obtain ⟨r0, r1, r5⟩ := put_rest (X := X) (a := a) (b := b) (v := v)
  generalize xPut X a b v = X2 at *
  have en : xn X2 = xn X := by unfold xn; rw [r5 0 (by decide)]
  have el : ∀ k, xl X2 k = xl X k := fun k => by unfold xl; rw [r1]
  have es : ∀ k j, xSg X2 k j = xSg X k j := fun k j => by unfold xSg; rw [r0]
  refine ⟨fun k hk => ?_, p1, fun k hk q => ?_⟩
  · rw [en] at hk
    rw [el, es]
    obtain ⟨a1, a2⟩ := h.N k hk
    refine ⟨a1, fun j hj => ?_⟩
    rw [es, es]
    exact a2 j hj
  · rw [en] at hk
    rw [xEb_cg (r5 6 (by decide))] at q
    have l16 := hr.x.l16 (show k < 20 by omega)
    have hno := hp_no (cut_no hc hk q)
    have hu : xU X2 k = xU X k := xU_cg l16 (el k) (fun j _ => es k j) (fun j hj => p3 _ _ (hno j hj))
    rw [xFits_cg hu (r5 2 (by decide)) (r5 3 (by decide)) (r5 4 (by decide)) (r5 5 (by decide)), r5 7 (by decide)]
    exact h.F k hk q
