/-! ===== the plate, its history, and what an act does to them ===== -/
def Gd (Y : Nat → XS) : Prop := (∃ M, Inv Y M) ∧ vX (Y 5) ∧ ∀ j, j < yq Y → vX (Y ((yo Y + j) % 5))
theorem Gd.r {Y : Nat → XS} (h : Gd Y) : ∃ f, Rl (Y 5) f := ⟨_, h.1.choose_spec.r⟩
theorem Gd.v {Y : Nat → XS} (h : Gd Y) : vX (Y 5) := h.2.1
theorem Gd.ok {Y : Nat → XS} (h : Gd Y) : okX (Y 5) := h.1.choose_spec.x 5 (by decide)
theorem Gd.all {Y : Nat → XS} (h : Gd Y) : ∀ i, i < 7 → okX (Y i) := h.1.choose_spec.x
theorem Gd.h {Y : Nat → XS} (h : Gd Y) : okH Y := h.1.choose_spec.h.1
theorem Gd.t {Y : Nat → XS} (h : Gd Y) : okT Y := h.1.choose_spec.t.1
/-- nothing recorded, or the state before recorded last -/
def Sp (Y Y2 : Nat → XS) : Prop := Gd Y2 ∧ ((Y2 5 = Y 5 ∧ yq Y2 = yq Y) ∨ (yq Y2 = (if yq Y < 5 then yq Y + 1 else 5) ∧ Y2 ((yo Y2 + (yq Y2 - 1)) % 5) = Y 5))
theorem Sp.same {Y : Nat → XS} (h : Gd Y) : Sp Y Y := ⟨h, Or.inl ⟨rfl, rfl⟩⟩
theorem yrec_q {Y : Nat → XS} (h : okH Y) : yq (yRec Y) = (if yq Y < 5 then yq Y + 1 else 5) ∧ yo (yRec Y) = (if yq Y < 5 then yo Y else (yo Y + 1) % 5) := by
  have e7 : yRec Y 7 5 = yRz Y := rfl
  have q5 := h.q5
  have o5 := h.o5
  by_cases q : yq Y < 5
  · have z := yRz_lt q
    rw [if_pos q, if_pos q]
    constructor
    · show (yRec Y 7 5 1).toNatClampNeg = _
      have eq1 : yRec Y 7 5 1 = nI (yq Y + 1) := by rw [e7, z]; exact if_pos rfl
      rw [eq1, nI_clamp (by omega)]
    · unfold yo
      rw [e7, z, upd_n (by decide)]
  · have z := yRz_ge q
    rw [if_neg q, if_neg q]
    constructor
    · show (yRec Y 7 5 1).toNatClampNeg = _
      have eq1 : yRec Y 7 5 1 = nI (yq Y - 1 + 1) := by rw [e7, z]; exact if_pos rfl
      rw [eq1, nI_clamp (by omega)]
      omega
    · show (yRec Y 7 5 0).toNatClampNeg = _
      have eo1 : yRec Y 7 5 0 = nI ((yo Y + 1) % 5) := by
        rw [e7, z, upd_n (by decide)]
        exact if_pos rfl
      rw [eo1, nI_clamp (by omega)]
theorem yrec_at {Y : Nat → XS} (h : okH Y) : ∀ j, j < yq (yRec Y) → yRec Y ((yo (yRec Y) + j) % 5) = if j = yq (yRec Y) - 1 then Y 5 else Y ((yo (yRec Y) + j) % 5) := by
  intro j hj
  obtain ⟨e1, e2⟩ := yrec_q h
  have q5 := h.q5
  have o5 := h.o5
  rw [yRec_at Y (Nat.mod_lt _ (by decide))]
  have key : (yo (yRec Y) + j) % 5 = yRs Y ↔ j = yq (yRec Y) - 1 := by
    rw [e1] at hj
    rw [e1, e2]
    unfold yRs
    by_cases q : yq Y < 5
    · rw [if_pos q] at hj
      rw [if_pos q, if_pos q, if_pos q]
      omega
    · rw [if_neg q] at hj
      rw [if_neg q, if_neg q, if_neg q]
      omega
  by_cases z : j = yq (yRec Y) - 1
  · rw [if_pos (key.mpr z), if_pos z]
  · rw [if_neg (fun y => z (key.mp y)), if_neg z]
theorem Sp_act {Y : Nat → XS} {X M2 : XS} (h : Gd Y) (hi : Inv (va_up (yRec Y) 5 X) M2) (hv : vX X) : Sp Y (va_up (yRec Y) 5 X) := by
  have hh := h.h
  obtain ⟨e1, e2⟩ := yrec_q hh
  have q5 := hh.q5
  have o5 := hh.o5
  have eq : yq (va_up (yRec Y) 5 X) = yq (yRec Y) := rfl
  have eo : yo (va_up (yRec Y) 5 X) = yo (yRec Y) := rfl
  have ea : ∀ i, i < 5 → va_up (yRec Y) 5 X i = yRec Y i := fun i hi => va_up_ne _ _ (by omega)
  have hq : 1 ≤ yq (yRec Y) := by
    rw [e1]
    split <;> omega
  refine ⟨⟨⟨M2, hi⟩, hv, fun j hj => ?_⟩, Or.inr ⟨eq.trans e1, ?_⟩⟩
  · rw [eq] at hj
    rw [eo, ea _ (Nat.mod_lt _ (by decide)), yrec_at hh j hj]
    split
    · exact h.v
    · rename_i z
      rw [e1] at hj z
      rw [e2]
      by_cases q : yq Y < 5
      · rw [if_pos q] at hj z
        rw [if_pos q]
        exact h.2.2 j (by omega)
      · rw [if_neg q] at hj z
        rw [if_neg q]
        have := h.2.2 (j + 1) (by omega)
        rw [show ((yo Y + 1) % 5 + j) % 5 = (yo Y + (j + 1)) % 5 by omega]
        exact this
  · rw [eq, eo, ea _ (Nat.mod_lt _ (by decide)), yrec_at hh _ (by omega), if_pos rfl]
theorem Sp_x {Y Y2 : Nat → XS} {v : Int32} {X : XS} {u : yR} (h : Gd Y) (hi : ∃ M2, Inv u.2 M2) (e : u = (v, va_up (yRec Y) 5 X)) (hv : ∀ f2, Rl X f2 → vX X) : Sp Y u.2 := by
  obtain ⟨M2, hi⟩ := hi
  rw [e] at hi ⊢
  exact Sp_act h hi (hv _ hi.r)
theorem Sp_n {Y : Nat → XS} {v : Int32} {u : yR} (h : Gd Y) (e : u = (v, Y)) : Sp Y u.2 := by
  rw [e]
  exact Sp.same h
theorem s_recut {Y : Nat → XS} (h : Gd Y) (w hh : Int32) : Sp Y (yRecut Y w hh).2 := by
  obtain ⟨M, hi⟩ := h.1
  by_cases q : isPl w hh = true
  · exact Sp_x (Y2 := Y) h ⟨_, (aRecut hi w hh).2⟩ (if_pos q) (fun f2 hr2 => vX_re hr2 h.v)
  · exact Sp_n h (if_neg q)
theorem bnot {b : Bool} (h : ¬ b = true) : b = false := by cases b with | false => rfl | true => exact absurd rfl h
theorem s_set {Y : Nat → XS} (h : Gd Y) {lo hi : Int32} {k : Nat} (hk : k = 4 ∨ k = 5) (v : Int32) (hI : ∃ M2, Inv (ySet Y lo hi k v).2 M2) : Sp Y (ySet Y lo hi k v).2 := by
  by_cases q : v < lo ∨ ¬ v ≤ hi
  · exact Sp_n h (if_pos q)
  · by_cases q2 : xEng (Y 5) = true
    · exact Sp_n (v := (-1004)) h (by unfold ySet; rw [if_neg q, if_pos q2])
    · by_cases q3 : Y 5 5 k = v
      · exact Sp_n (v := (-1005)) h (by unfold ySet; rw [if_neg q, if_neg q2, if_pos q3])
      · exact Sp_x (Y2 := Y) (v := Y 5 5 k) (X := va_up (Y 5) 5 (upd (Y 5 5) k v)) h hI (by unfold ySet; rw [if_neg q, if_neg q2, if_neg q3]) (fun f2 hr2 => vX_set hk hr2 h.v (bnot q2))
theorem s_mar {Y : Nat → XS} (h : Gd Y) (v : Int32) : Sp Y (ySet Y 0 100 4 v).2 := s_set h (Or.inl rfl) v ⟨_, (aMar h.1.choose_spec v).2⟩
theorem s_col {Y : Nat → XS} (h : Gd Y) (v : Int32) : Sp Y (ySet Y 1 3 5 v).2 := s_set h (Or.inr rfl) v ⟨_, (aColu h.1.choose_spec v).2⟩
theorem s_adj {Y : Nat → XS} (h : Gd Y) (a b v : Int32) : Sp Y (yAdj Y a b v).2 := by
  obtain ⟨M, hi⟩ := h.1
  have hI := (aAdj hi a b v).2
  by_cases q1 : (xOk a && xOk b) = false
  · exact Sp_n (v := (-1001)) h (if_pos q1)
  · by_cases q2 : v < (-3) ∨ ¬ v ≤ 3
    · exact Sp_n (v := (-1002)) h (by unfold yAdj; rw [if_neg q1, if_pos q2])
    · by_cases q3 : xCut (Y 5) a b = true
      · exact Sp_n (v := (-1004)) h (by unfold yAdj; rw [if_neg q1, if_neg q2, if_pos q3])
      · by_cases q4 : xAdj (Y 5) a b = v
        · exact Sp_n (v := (-1005)) h (by unfold yAdj; rw [if_neg q1, if_neg q2, if_neg q3, if_pos q4])
        · by_cases q5 : xAdj (Y 5) a b = 0 ∧ 16 ≤ xp (Y 5)
          · exact Sp_n (v := (-1003)) h (by unfold yAdj; rw [if_neg q1, if_neg q2, if_neg q3, if_neg q4, if_pos q5])
          · refine Sp_x (Y2 := Y) (v := xAdj (Y 5) a b) (X := xPut (Y 5) a b v) h ⟨_, hI⟩ (by unfold yAdj; rw [if_neg q1, if_neg q2, if_neg q3, if_neg q4, if_neg q5]) (fun f2 _ => ?_)
            have ok : (xOk a && xOk b) = true := by
              cases e : (xOk a && xOk b) with
              | false => exact absurd e q1
              | true => rfl
            rw [Bool.and_eq_true] at ok
            refine vX_put hi.r h.v ok.1 ok.2 ?_ (bnot q3)
            by_cases z : xAdj (Y 5) a b = 0
            · exact Or.inr (Or.inr (Nat.lt_of_not_le (fun y => q5 ⟨z, y⟩)))
            · exact Or.inl (xAdj_in z)
theorem s_read {Y : Nat → XS} (h : Gd Y) : Sp Y (yReadN Y).2 := by
  obtain ⟨M, hi⟩ := h.1
  have hI := (aReadN hi).2
  by_cases q : xFault Y = (-1)
  · by_cases q2 : xn (Y 5) + xNmN Y (yt Y) ≤ 20
    · exact Sp_x (Y2 := Y) h ⟨_, hI⟩ (yReadN_go q q2) (fun f2 _ => vX_ad hi.r h.v h.t (xFault_no h.t.n60 q) q2)
    · exact Sp_n h (yReadN_n q q2)
  · exact Sp_n h (yReadN_f q)
theorem s_remove {Y : Nat → XS} (h : Gd Y) {k : Nat} (hk : k < xn (Y 5)) : Sp Y (yRemove Y (nI k)).2 := by
  obtain ⟨M, hi⟩ := h.1
  have hI := (aRemove hi (nI k)).2
  have hn := h.ok.n20
  have t := xTk_in hn hk
  by_cases q : xEf (Y 5) k = true
  · exact Sp_n (v := (-1004)) h (by unfold yRemove; rw [t, nI_clamp (show k < 2147483648 by omega), if_neg (by decide), if_pos q])
  · exact Sp_x (Y2 := Y) (v := nI (xn (Y 5) - 1)) (X := xTo (Y 5) k) h ⟨_, hI⟩ (by unfold yRemove; rw [t, nI_clamp (show k < 2147483648 by omega), if_neg (by decide), if_neg q]) (fun f2 _ => vX_to hi.r h.v hk (bnot q))
theorem s_swap {Y : Nat → XS} (h : Gd Y) {i j : Nat} (hi' : i < xn (Y 5)) (hj : j < xn (Y 5)) : Sp Y (ySwap Y (nI i) (nI j)).2 := by
  obtain ⟨M, hi⟩ := h.1
  have hI := (aSwap hi (nI i) (nI j)).2
  have hn := h.ok.n20
  have e : ySwap Y (nI i) (nI j) = ySwapK Y i j := by
    unfold ySwap
    rw [xTk_in hn hi', xTk_in hn hj, nI_clamp (show i < 2147483648 by omega), nI_clamp (show j < 2147483648 by omega), if_neg (by decide)]
  rw [e] at hI ⊢
  by_cases q : xEb (Y 5) i = true ∨ xEb (Y 5) j = true
  · exact Sp_n (v := (-1004)) h (if_pos q)
  · by_cases q2 : i = j
    · exact Sp_n (v := (-1005)) h (by unfold ySwapK; rw [if_neg q, if_pos q2])
    · exact Sp_x (Y2 := Y) (v := xSize (xEx (Y 5) i j)) (X := xEx (Y 5) i j) h ⟨_, hI⟩ (by unfold ySwapK; rw [if_neg q, if_neg q2]) (fun f2 _ => vX_ex hi.r h.v hi' hj q2 (bnot (fun z => q (Or.inl z))) (bnot (fun z => q (Or.inr z))))
theorem s_eng {Y : Nat → XS} (h : Gd Y) {k : Nat} (hk : k < xn (Y 5)) : Sp Y (yEng Y (nI k)).2 := by
  obtain ⟨M, hi⟩ := h.1
  have hI := (aEng hi (nI k)).2
  have hn := h.ok.n20
  have e : yEng Y (nI k) = yEngK Y k := by
    unfold yEng
    rw [xTk_in hn hk, nI_clamp (show k < 2147483648 by omega), if_neg (by decide)]
  rw [e] at hI ⊢
  by_cases q : xFits (Y 5) k (xSize (Y 5)) = false
  · exact Sp_n (v := (-1004)) h (if_pos q)
  · by_cases q2 : xEb (Y 5) k = true
    · exact Sp_n (v := (-1005)) h (by unfold yEngK; rw [if_neg q, if_pos q2])
    · refine Sp_x (Y2 := Y) (v := xBeg (xMe (Y 5) (1 <<< (nI k &&& 31)) (xSize (Y 5))) k (xSize (Y 5))) (X := xMe (Y 5) (1 <<< (nI k &&& 31)) (xSize (Y 5))) h ⟨_, hI⟩ (by unfold yEngK; rw [if_neg q, if_neg q2]) (fun f2 hr2 => vX_eng hi.r hk hr2 h.v ?_)
      cases z : xFits (Y 5) k (xSize (Y 5)) with
      | true => rfl
      | false => exact absurd z q
theorem s_engA {Y : Nat → XS} (h : Gd Y) : Sp Y (yEngA Y).2 := by
  obtain ⟨M, hi⟩ := h.1
  have hI := (aEngA hi).2
  by_cases q : xEs (Y 5) (xSize (Y 5)) (xn (Y 5)) = 0
  · exact Sp_n (v := (-1005)) h (if_pos q)
  · exact Sp_x (Y2 := Y) (v := bitc (xEs (Y 5) (xSize (Y 5)) (xn (Y 5)))) (X := xMe (Y 5) (xEs (Y 5) (xSize (Y 5)) (xn (Y 5))) (xSize (Y 5))) h ⟨_, hI⟩ (if_neg q) (fun f2 hr2 => vX_engA hi.r hr2 h.v)
/-- the text alone changes -/
theorem Gd_text {Y Y2 : Nat → XS} (h : Gd Y) (hi : ∃ M2, Inv Y2 M2) (e : ∀ i, i < 7 → Y2 i = Y i) (e0 : Y2 7 5 0 = Y 7 5 0) (e1 : Y2 7 5 1 = Y 7 5 1) : Gd Y2 ∧ yq Y2 = yq Y ∧ yo Y2 = yo Y := by
  have eq : yq Y2 = yq Y := by unfold yq; rw [e1]
  have eo : yo Y2 = yo Y := by unfold yo; rw [e0]
  refine ⟨⟨hi, by rw [e 5 (by decide)]; exact h.v, fun j hj => ?_⟩, eq, eo⟩
  rw [eq] at hj
  rw [eo, e _ (by omega)]
  exact h.2.2 j hj
theorem g_type {Y : Nat → XS} (h : Gd Y) {c : Int32} (hc : chOk c) (hl : yt Y < 60) : Gd (yTy Y c) ∧ yq (yTy Y c) = yq Y ∧ yo (yTy Y c) = yo Y := by
  have e : yType Y c = (nI (yt Y + 1), yTy Y c) := if_neg (by omega)
  have hI := (aType h.1.choose_spec hc).2
  rw [e] at hI
  exact Gd_text h ⟨_, hI⟩ (fun i hi => va_up_ne _ _ (by omega)) rfl rfl
theorem g_clear {Y : Nat → XS} (h : Gd Y) : Gd (yClear Y).2 ∧ yq (yClear Y).2 = yq Y ∧ yo (yClear Y).2 = yo Y :=
  Gd_text h ⟨_, (aClear h.1.choose_spec).2⟩ (fun i hi => va_up_ne _ _ (by omega)) rfl rfl
theorem g_undo {Y : Nat → XS} (h : Gd Y) (hq : 0 < yq Y) : Gd (yTl Y) ∧ yTl Y 5 = Y ((yo Y + (yq Y - 1)) % 5) ∧ yq (yTl Y) = yq Y - 1 := by
  have hI := (aUndo h.1.choose_spec).2
  have e : yUndo Y = (nI (yq Y - 1), yTl Y) := if_neg (by omega)
  rw [e] at hI
  have q5 := h.h.q5
  have eo : yo (yTl Y) = yo Y := rfl
  have eq : yq (yTl Y) = yq Y - 1 := by
    show (nI (yq Y - 1)).toNatClampNeg = _
    exact nI_clamp (by omega)
  have eY : ∀ i, i < 5 → yTl Y i = Y i := fun i hi => by
    unfold yTl
    rw [va_up_ne _ _ (by omega), va_up_ne _ _ (by omega)]
  refine ⟨⟨⟨_, hI⟩, ?_, fun j hj => ?_⟩, rfl, eq⟩
  · show vX (Y ((yo Y + (yq Y - 1)) % 5))
    exact h.2.2 _ (by omega)
  · rw [eq] at hj
    rw [eo, eY _ (Nat.mod_lt _ (by decide))]
    exact h.2.2 j (by omega)
theorem Gd_Z : Gd YZ := ⟨⟨MZ, inv_0⟩, ⟨fun k hk => by
  have : k < xn XZ := hk
  rw [xnZ] at this
  exact absurd this (Nat.not_lt_zero k), ⟨fun j hj => by
    have : j < xp XZ := hj
    rw [xpZ] at this
    exact absurd this (Nat.not_lt_zero j), fun i j _ hj => by
    have : j < xp XZ := hj
    rw [xpZ] at this
    exact absurd this (Nat.not_lt_zero j)⟩, fun k hk => by
  have : k < xn XZ := hk
  rw [xnZ] at this
  exact absurd this (Nat.not_lt_zero k)⟩, fun j hj => by
  rw [yqZ] at hj
  exact absurd hj (Nat.not_lt_zero j)⟩
