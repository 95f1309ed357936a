/-! ===== every act is answered alike, and keeps the relation ===== -/
theorem aRecut {Y : Nat → XS} {M : XS} (h : Inv Y M) (w hh : Int32) : Sm (yRecut Y w hh) (mRecut M w hh) := by
  unfold yRecut mRecut
  rw [rPlate]
  cases q : inR w 300 6000 with
  | false =>
    rw [Bool.false_and, if_neg (by decide), if_pos (Or.inl rfl)]
    exact Sm.of h
  | true =>
    cases z : inR hh 100 3000 with
    | false =>
      rw [Bool.and_false, if_neg (by decide), if_pos (Or.inr rfl)]
      exact Sm.of h
    | true =>
      rw [Bool.and_self, if_pos rfl, if_neg (by decide)]
      exact Sm.go h (rBc h.r) (rRecut h.r (inR_b q) (inR_b z))
theorem rRng {v a b : Int32} : (v < a ∨ ¬ v ≤ b) ↔ inR v a b = false := by rw [inR_f, Int32.not_le]
theorem aSetI {Y : Nat → XS} {M : XS} (h : Inv Y M) {k : Nat} {v : Int32} (hk : (k = 2 ∧ 0 ≤ v.toInt ∧ v.toInt ≤ 100) ∨ (k = 3 ∧ 1 ≤ v.toInt ∧ v.toInt ≤ 3)) (he : Y 5 5 (k + 2) = M 0 k) : Sm (if xEng (Y 5) = true then ((-1004), Y) else if Y 5 5 (k + 2) = v then ((-1005), Y) else (Y 5 5 (k + 2), va_up (yRec Y) 5 (va_up (Y 5) 5 (upd (Y 5 5) (k + 2) v)))) (mSet M k v) := by
  obtain ⟨e1, e2⟩ := rEng h.r
  unfold mSet
  by_cases q : xE (Y 5) = 0
  · rw [if_neg (show ¬ xEng (Y 5) = true from fun z => e1.mp z q), if_neg (show ¬ ¬ mEs (M 0) ≤ 0 from fun z => z (e2.mpr q)), he]
    by_cases y : M 0 k = v
    · rw [if_pos y, if_pos y]
      exact Sm.of h
    · rw [if_neg y, if_neg y]
      exact Sm.go h rfl (rSetN h.r hk)
  · rw [if_pos (show xEng (Y 5) = true from e1.mpr q), if_pos (show ¬ mEs (M 0) ≤ 0 from fun z => q (e2.mp z))]
    exact Sm.of h
theorem aMar {Y : Nat → XS} {M : XS} (h : Inv Y M) (v : Int32) : Sm (ySet Y 0 100 4 v) (mMar M v) := by
  unfold ySet mMar
  cases q : inR v 0 100 with
  | false =>
    rw [if_pos (rRng.mpr q), if_neg (by decide)]
    exact Sm.of h
  | true =>
    rw [if_neg (fun z => by rw [rRng.mp z] at q; cases q), if_pos rfl]
    exact aSetI h (Or.inl ⟨rfl, inR_b q⟩) h.r.S.1.2.2.1
theorem aColu {Y : Nat → XS} {M : XS} (h : Inv Y M) (v : Int32) : Sm (ySet Y 1 3 5 v) (mColu M v) := by
  unfold ySet mColu
  cases q : inR v 1 3 with
  | false =>
    rw [if_pos (rRng.mpr q), if_neg (by decide)]
    exact Sm.of h
  | true =>
    rw [if_neg (fun z => by rw [rRng.mp z] at q; cases q), if_pos rfl]
    exact aSetI h (Or.inr ⟨rfl, inR_b q⟩) h.r.S.1.2.2.2.1
theorem aAdj {Y : Nat → XS} {M : XS} (h : Inv Y M) (a b v : Int32) : Sm (yAdj Y a b v) (mAdjT M a b v) := by
  unfold yAdj mAdjT
  have eo : (xOk a && xOk b) = (mOk a && mOk b) := rfl
  rw [eo, rCut h.r, rAdj h.r.P]
  by_cases q : (mOk a && mOk b) = false
  · rw [if_pos q, if_pos q]
    exact Sm.of h
  · rw [if_neg q, if_neg q]
    have q2 : xOk a = true ∧ xOk b = true := by
      have : (xOk a && xOk b) = true := by
        rw [eo]
        cases z : (mOk a && mOk b) with
        | true => rfl
        | false => exact absurd z q
      simpa using this
    by_cases r : inR v (-3) 3 = false
    · rw [if_pos (rRng.mpr r), if_pos r]
      exact Sm.of h
    · rw [if_neg (fun z => r (rRng.mp z)), if_neg r]
      have r2 : inR v (-3) 3 = true := by
        cases z : inR v (-3) 3 with
        | true => rfl
        | false => exact absurd z r
      by_cases t : mCut (M 0) a b = true
      · rw [if_pos t, if_pos t]
        exact Sm.of h
      · rw [if_neg t, if_neg t]
        by_cases u : mAdj (M 0) a b = v
        · rw [if_pos u, if_pos u]
          exact Sm.of h
        · rw [if_neg u, if_neg u]
          have hp := h.r.P.1
          have h16 := h.r.x.p16
          by_cases w : mAdj (M 0) a b = 0 ∧ mp (M 0) = 16
          · rw [if_pos ⟨w.1, by omega⟩, if_pos w]
            exact Sm.of h
          · rw [if_neg (fun z => w ⟨z.1, by omega⟩), if_neg w]
            exact Sm.go h rfl (rPut h.r q2.1 q2.2 (inR_b r2) u w)
theorem aType {Y : Nat → XS} {M : XS} (h : Inv Y M) {c : Int32} (hc : chOk c) : Sm (yType Y c) (mType M c) := by
  have et := h.t.2.t
  have h60 := h.t.1.n60
  unfold yType mType
  by_cases q : mt M = 60
  · rw [if_pos (by omega), if_pos q]
    exact Sm.of h
  · rw [if_neg (by omega), if_neg q]
    refine ⟨by rw [et], h.r, h.h.cg rfl rfl (fun i hi => va_up_ne _ _ (by omega)) rfl rfl, ?_, h.s.cg rfl rfl rfl rfl, fun i hi => ?_⟩
    · have e2 : yt (yTy Y c) = yt Y + 1 := by
        show (nI (yt Y + 1)).toNatClampNeg = _
        exact nI_clamp (by omega)
      refine ⟨⟨by rw [e2]; rfl, by rw [e2]; omega, fun j hj => ?_⟩, ?_, fun j hj => ?_⟩
      · show chOk (upd (Y 7 0) (yt Y) c j)
        unfold upd
        split
        · exact hc
        · exact h.t.1.c hj
      · show nI (yt Y + 1) = nI (mt M + 1)
        rw [et]
      · show upd (Y 7 0) (yt Y) c j = upd (M 3) (mt M) c j
        rw [et]
        unfold upd
        split
        · rfl
        · exact h.t.2.2 j hj
    · show okX (yTy Y c i)
      unfold yTy
      rw [va_up_ne _ _ (by omega)]
      exact h.x i hi
theorem aClear {Y : Nat → XS} {M : XS} (h : Inv Y M) : Sm (yClear Y) (mClear M) := by
  refine ⟨h.t.2.1, h.r, h.h.cg rfl rfl (fun i hi => va_up_ne _ _ (by omega)) rfl rfl, ?_, h.s.cg rfl rfl rfl rfl, fun i hi => ?_⟩
  · exact ⟨⟨rfl, Nat.zero_le _, fun j hj => h.t.1.c hj⟩, rfl, fun j hj => h.t.2.2 j hj⟩
  · show okX (va_up Y 7 _ i)
    rw [va_up_ne _ _ (by omega)]
    exact h.x i hi
theorem aRemove {Y : Nat → XS} {M : XS} (h : Inv Y M) (seat : Int32) : Sm (yRemove Y seat) (mRemove M seat) := by
  have hn := h.r.x.n20
  unfold yRemove mRemove
  rw [rTk h.r]
  cases q : xTk (xn (Y 5)) seat with
  | false =>
    rw [if_pos rfl, Bool.not_false, if_pos rfl]
    exact Sm.of h
  | true =>
    obtain ⟨k, hk, rfl⟩ := xTk_of (by omega) q
    rw [if_neg (show ¬ (true = false) by decide), Bool.not_true, if_neg (show ¬ (false = true) by decide), nI_clamp (show k < 2147483648 by omega)]
    unfold mRemK
    have ef := rEf h.r hk
    cases z : xEf (Y 5) k with
    | true =>
      rw [← ef, z, if_pos rfl, if_pos rfl]
      exact Sm.of h
    | false =>
      rw [← ef, z, if_neg (by decide), if_neg (by decide)]
      exact Sm.go h (by rw [h.r.n]) (rRemove h.r hk z)
theorem aSwap {Y : Nat → XS} {M : XS} (h : Inv Y M) (seat other : Int32) : Sm (ySwap Y seat other) (mSwap M seat other) := by
  have hn := h.r.x.n20
  unfold ySwap mSwap
  rw [rTk h.r, rTk h.r]
  cases q : xTk (xn (Y 5)) seat with
  | false =>
    rw [if_pos (Or.inl rfl), Bool.not_false, if_pos (Or.inl rfl)]
    exact Sm.of h
  | true =>
    cases q2 : xTk (xn (Y 5)) other with
    | false =>
      rw [if_pos (Or.inr rfl), Bool.not_true, Bool.not_false, if_pos (Or.inr rfl)]
      exact Sm.of h
    | true =>
      obtain ⟨i, hi, rfl⟩ := xTk_of (by omega) q
      obtain ⟨j, hj, rfl⟩ := xTk_of (by omega) q2
      rw [if_neg (show ¬ (true = false ∨ true = false) by decide), Bool.not_true, if_neg (show ¬ (false = true ∨ false = true) by decide), nI_clamp (show i < 2147483648 by omega), nI_clamp (show j < 2147483648 by omega)]
      unfold ySwapK mSwapK
      rw [← (rEb h.r hi).2, ← (rEb h.r hj).2]
      by_cases z : xEb (Y 5) i = true ∨ xEb (Y 5) j = true
      · rw [if_pos z, if_pos z]
        exact Sm.of h
      · rw [if_neg z, if_neg z]
        by_cases y : i = j
        · rw [if_pos y, if_pos y]
          exact Sm.of h
        · rw [if_neg y, if_neg y]
          have r := rSwap h.r hi hj y (by
            cases e : xEb (Y 5) i with
            | false => rfl
            | true => exact absurd (Or.inl e) z) (by
            cases e : xEb (Y 5) j with
            | false => rfl
            | true => exact absurd (Or.inr e) z)
          exact Sm.go h (rSize r) r
theorem aEng {Y : Nat → XS} {M : XS} (h : Inv Y M) (seat : Int32) : Sm (yEng Y seat) (mEng M seat) := by
  have hn := h.r.x.n20
  unfold yEng mEng
  rw [rTk h.r]
  cases q : xTk (xn (Y 5)) seat with
  | false =>
    rw [if_pos rfl, Bool.not_false, if_pos rfl]
    exact Sm.of h
  | true =>
    obtain ⟨k, hk, rfl⟩ := xTk_of (by omega) q
    rw [if_neg (show ¬ (true = false) by decide), Bool.not_true, if_neg (show ¬ (false = true) by decide), nI_clamp (show k < 2147483648 by omega)]
    unfold yEngK mEngK
    rw [← (rEb h.r hk).2, rFits h.r hk, rSize h.r]
    by_cases z : mFits (M 0) k (mSize (M 0)) = false
    · rw [if_pos z, if_pos z]
      exact Sm.of h
    · rw [if_neg z, if_neg z]
      by_cases y : xEb (Y 5) k = true
      · rw [if_pos y, if_pos y]
        exact Sm.of h
      · rw [if_neg y, if_neg y]
        have z1 : 1 ≤ (mSize (M 0)).toInt := by
          have z2 : mFits (M 0) k (mSize (M 0)) = true := by
            cases e : mFits (M 0) k (mSize (M 0)) with
            | true => rfl
            | false => exact absurd e z
          unfold mFits at z2
          simp only [Bool.and_eq_true, Bool.not_eq_true', decide_eq_false_iff_not, Int32.le_iff_toInt_le, Int32.toInt_zero] at z2
          omega
        have r := rEngr h.r hk ⟨z1, (mSize_in h.r).2⟩
        exact Sm.go h (rBeg r hk _) r
theorem aEngA {Y : Nat → XS} {M : XS} (h : Inv Y M) : Sm (yEngA Y) (mEngA M) := by
  obtain ⟨e0, e1, e2⟩ := rEngA h.r
  unfold yEngA mEngA
  by_cases q : mEc (M 0) (mSize (M 0)) (mn (M 0)) = 0
  · rw [if_pos (e0.mpr q), if_pos q]
    exact Sm.of h
  · rw [if_neg (fun z => q (e0.mp z)), if_neg q]
    exact Sm.go h e1 (e2 q)
theorem aUndo {Y : Nat → XS} {M : XS} (h : Inv Y M) : Sm (yUndo Y) (mUndo M) := by
  have ek := h.h.k
  have hok := h.h.1
  have o5 := hok.o5
  have q5 := hok.q5
  unfold yUndo mUndo
  rw [ek]
  by_cases q : yq Y = 0
  · rw [if_pos q, if_pos q]
    exact Sm.of h
  · rw [if_neg q, if_neg q]
    have hl := h.h.2.2 (yq Y - 1) (by omega)
    have eo : yo (yTl Y) = yo Y := rfl
    have eq : yq (yTl Y) = yq Y - 1 := by
      show (nI (yq Y - 1)).toNatClampNeg = _
      exact nI_clamp (by omega)
    have eY : ∀ i, i < 5 → yTl Y i = Y i := fun i hi => by
      unfold yTl
      rw [va_up_ne _ _ (by omega), va_up_ne _ _ (by omega)]
    refine ⟨rfl, ?_, ⟨⟨hok.o, o5, by rw [eq]; rfl, by rw [eq]; omega⟩, rfl, fun j hj => ?_⟩, h.t.cg rfl rfl rfl rfl, h.s.cg rfl rfl rfl rfl, fun i hi => ?_⟩
    · show Rl (Y ((yo Y + (yq Y - 1)) % 5)) (cpN (M 0) (fun q => M 1 (417 * (yq Y - 1) + q)) 0 417)
      refine hl.cg (fun r hr => ?_)
      unfold cpN
      rw [if_pos (by omega)]
      rfl
    · have hj2 : j < yq (yTl Y) := hj
      rw [eq] at hj2
      show Rl (yTl Y ((yo Y + j) % 5)) (fun q => M 1 (417 * j + q))
      rw [eY _ (Nat.mod_lt _ (by decide))]
      exact h.h.2.2 j (by omega)
    · show okX (yTl Y i)
      by_cases z : i = 5
      · subst z
        exact h.x ((yo Y + (yq Y - 1)) % 5) (by omega)
      · unfold yTl
        rw [va_up_ne _ _ (by omega), va_up_ne _ _ z]
        exact h.x i hi
theorem aKeep {Y : Nat → XS} {M : XS} (h : Inv Y M) : Sm (yKeep Y) (mKeep M) := by
  have e : Y 5 5 0 = M 0 4 := by
    rw [h.r.x.n, h.r.m.n, h.r.n]
  refine ⟨e, h.r, h.h.cg rfl rfl (fun i hi => ?_) rfl rfl, h.t.cg rfl rfl rfl rfl, ⟨rfl, fun _ => ?_⟩, fun i hi => ?_⟩
  · show va_up (va_up Y 6 (Y 5)) 7 _ i = Y i
    rw [va_up_ne _ _ (by omega), va_up_ne _ _ (by omega)]
  · show Rl (Y 5) (cpN (M 2) (M 0) 0 417)
    refine h.r.cg (fun r hr => ?_)
    unfold cpN
    rw [if_pos (by omega)]
    rfl
  · show okX (va_up (va_up Y 6 (Y 5)) 7 _ i)
    rw [va_up_ne _ _ (by omega)]
    by_cases z : i = 6
    · subst z
      exact h.x 5 (by decide)
    · rw [va_up_ne _ _ z]
      exact h.x i hi
theorem aRest {Y : Nat → XS} {M : XS} (h : Inv Y M) : Sm (yRest Y) (mRest M) := by
  unfold yRest mRest
  rw [h.s.1]
  by_cases q : M 4 1 = 0
  · rw [if_pos q, if_pos q]
    exact Sm.of h
  · rw [if_neg q, if_neg q]
    have r := h.s.2 q
    have r2 : Rl (Y 6) (cpN (M 0) (M 2) 0 417) := r.cg (fun x hx => by
      unfold cpN
      rw [if_pos (by omega)]
      rfl)
    have e : Y 6 5 0 = cpN (M 0) (M 2) 0 417 4 := by
      rw [r2.x.n, r2.m.n, r2.n]
    exact Sm.go h e r2
theorem aReadN {Y : Nat → XS} {M : XS} (h : Inv Y M) : Sm (yReadN Y) (mReadN M) := by
  have h60 := h.t.1.n60
  have et := h.t.2.t
  have en := h.r.n
  have enm := rNm h.t.2 h60
  rw [et] at enm
  rcases rFault h.t.2 h60 with ⟨q, z⟩ | ⟨q, z, e⟩
  · by_cases y : xn (Y 5) + xNmN Y (yt Y) ≤ 20
    · rw [yReadN_go q y, mReadN_go z (by rw [← et] at enm ⊢; omega)]
      exact Sm.go h (by rw [et, enm]) (rReadN h.r h.t.2 h.t.1 q y)
    · rw [yReadN_n q y, mReadN_n z (by rw [← et] at enm ⊢; omega)]
      exact Sm.of h
  · rw [yReadN_f q, mReadN_f z, e]
    exact Sm.of h
