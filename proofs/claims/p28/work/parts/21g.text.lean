/-! ===== the text's fault, and its names laid on the plate ===== -/
def Tx (Y : Nat → XS) (M : XS) : Prop := Y 7 5 2 = M 4 2 ∧ ∀ j, j < 60 → Y 7 0 j = M 3 j
theorem Tx.t {Y : Nat → XS} {M : XS} (h : Tx Y M) : yt Y = mt M := by
  unfold yt mt
  rw [h.1]
theorem xl_pt {c : Int32} (h : xL c = true) : mPt c = false := by
  cases q : mPt c with
  | false => rfl
  | true =>
    unfold mPt at q
    simp only [Bool.or_eq_true, decide_eq_true_eq] at q
    rcases q with q | q
    · subst q; exact absurd h (by decide)
    · subst q; exact absurd h (by decide)
theorem xl_59 {c : Int32} (h : xL c = true) : ¬ c = 59 := fun q => by
  subst q
  exact absurd h (by decide)
theorem xSc_1 {Y : Nat → XS} : ∀ {i : Nat}, (xSc Y i).2 = true → 1 ≤ (xSc Y i).1
  | 0, h => absurd (show false = true from h) (by decide)
  | i + 1, h => by
    rw [xSc_s] at h ⊢
    have h2 : xL (Y 7 0 i) = true := h
    show 1 ≤ if Y 7 0 i = 59 then 0 else (xSc Y i).1 + 1
    rw [if_neg (xl_59 h2)]
    omega
theorem rBad {Y : Nat → XS} {M : XS} (ht : Tx Y M) {i : Nat} (hi : i < 60) (h1 : (xSc Y i).1 = (mSc M i).1) (h2 : (xSc Y i).2 = !(mSc M i).2) (h16 : (mSc M i).1 ≤ 16) : xBad Y i = mBad M i := by
  unfold xBad xAl mBad
  rw [ht.2 i hi, h1, h2]
  by_cases q : M 3 i = 59
  · rw [if_pos q, if_pos q]
    cases (mSc M i).2 <;> rfl
  · rw [if_neg q, if_neg q, xL_m]
    by_cases z : 16 ≤ (mSc M i).1
    · rw [if_pos z, decide_eq_true (by omega)]
      rfl
    · rw [if_neg z, decide_eq_false (by omega), show xMk (M 3 i) = mPt (M 3 i) from rfl]
      cases mL (M 3 i) <;> cases (mSc M i).2 <;> cases mPt (M 3 i) <;> rfl
theorem rSc {Y : Nat → XS} {M : XS} (ht : Tx Y M) : ∀ {i : Nat}, i ≤ 60 → (∀ j, j < i → xBad Y j = false) → (xSc Y i).1 = (mSc M i).1 ∧ (xSc Y i).2 = !(mSc M i).2 ∧ (mSc M i).1 ≤ 16 ∧ ∀ j, j < i → mBad M j = false
  | 0, _, _ => ⟨rfl, rfl, Nat.zero_le _, fun j hj => absurd hj (Nat.not_lt_zero j)⟩
  | i + 1, hi, hb => by
    obtain ⟨a1, a2, a3, a4⟩ := rSc ht (i := i) (by omega) (fun j hj => hb j (Nat.lt_succ_of_lt hj))
    have hxb := hb i (Nat.lt_succ_self i)
    have hmb := rBad ht (show i < 60 by omega) a1 a2 a3
    rw [hxb] at hmb
    have hall : ∀ j, j < i + 1 → mBad M j = false := fun j hj => by
      rcases Nat.lt_or_ge j i with q | q
      · exact a4 j q
      · have : j = i := by omega
        rw [this, ← hmb]
    have e : mSc M (i + 1) = if M 3 i = 59 then (0, true) else ((mSc M i).1 + 1, mPt (M 3 i)) := rfl
    have h16 := mSc16 M hall
    have key : (xSc Y (i + 1)).1 = (mSc M (i + 1)).1 ∧ (xSc Y (i + 1)).2 = !(mSc M (i + 1)).2 := by
      rw [xSc_s, e, ht.2 i (by omega)]
      by_cases q : M 3 i = 59
      · rw [if_pos q, if_pos q, q]
        exact ⟨rfl, rfl⟩
      · rw [if_neg q, if_neg q]
        refine ⟨by rw [a1], ?_⟩
        show xL (M 3 i) = !(mPt (M 3 i))
        cases z : xL (M 3 i) with
        | true => rw [xl_pt z]; rfl
        | false =>
          unfold mBad at hmb
          rw [if_neg q, ← xL_m, z] at hmb
          cases y : mPt (M 3 i) with
          | true => rfl
          | false =>
            rw [y] at hmb
            simp at hmb
    exact ⟨key.1, key.2, h16, hall⟩
theorem rFl {Y : Nat → XS} {M : XS} (ht : Tx Y M) (h60 : yt Y ≤ 60) : xFl Y = mFl M := by
  have hle : xFl Y ≤ yt Y := fstN_le _ _
  have hno : ∀ j, j < xFl Y → xBad Y j = false := fun j hj => fstN_no (xBad Y) (yt Y) j hj
  obtain ⟨a1, a2, a3, a4⟩ := rSc ht (i := xFl Y) (by omega) hno
  unfold mFl
  rw [← ht.t]
  refine (fstN_eq hle a4 (fun q => ?_)).symm
  rw [← rBad ht (by omega) a1 a2 a3]
  exact fstN_yes (xBad Y) (yt Y) q
theorem rFault {Y : Nat → XS} {M : XS} (ht : Tx Y M) (h60 : yt Y ≤ 60) : (xFault Y = (-1) ∧ mFault M = (-1005)) ∨ (¬ xFault Y = (-1) ∧ ¬ mFault M = (-1005) ∧ xFault Y = mFault M) := by
  have hfl := rFl ht h60
  have hle : xFl Y ≤ yt Y := fstN_le _ _
  unfold xFault mFault
  rw [hfl, ht.t]
  have hle2 : mFl M ≤ mt M := fstN_le _ _
  have h60m : mt M ≤ 60 := by rw [← ht.t]; exact h60
  by_cases q : mFl M < mt M
  · rw [if_pos q, if_pos q]
    exact Or.inr ⟨nI_m1 (by omega), nI_m1005 (by omega), rfl⟩
  · rw [if_neg q, if_neg q]
    have he : xFl Y = yt Y := by rw [hfl, ht.t]; omega
    obtain ⟨a1, a2, a3, a4⟩ := rSc ht (i := mt M) h60m (fun j hj => fstN_no (xBad Y) (yt Y) j (by
      have e2 : fstN (xBad Y) (yt Y) = xFl Y := rfl
      rw [e2, he, ht.t]
      exact hj))
    rw [a2]
    cases (mSc M (mt M)).2 with
    | true =>
      rw [if_neg (by decide), if_pos rfl]
      exact Or.inr ⟨nI_m1 (by omega), nI_m1005 (by omega), rfl⟩
    | false =>
      rw [if_pos (by decide), if_neg (by decide)]
      exact Or.inl ⟨rfl, rfl⟩
theorem rNm {Y : Nat → XS} {M : XS} (ht : Tx Y M) : ∀ {i : Nat}, i ≤ 60 → xNmN Y i = mNm M i
  | 0, _ => rfl
  | i + 1, hi => by
    have ih := rNm ht (i := i) (by omega)
    unfold xNmN mNm
    rw [ht.2 i (by omega), ih]
    split <;> rfl
theorem rlQ {X X2 : XS} {f f2 : Nat → Int32} (h : Rl X f) (hX : okX X2) (h2 : X2 2 = X 2) (h3 : X2 3 = X 3) (h4 : X2 4 = X 4) (h5 : ∀ j, j ≠ 0 → X2 5 j = X 5 j) (hn : f2 4 = X2 5 0) (hf : ∀ q, q < 57 → q ≠ 4 → f2 q = f q) (hl : ∀ k, k < xn X2 → f2 (57 + 18 * k) = nI (xl X2 k)) (hl1 : ∀ k, k < xn X2 → 1 ≤ xl X2 k) (hg : ∀ k j, k < xn X2 → j < xl X2 k → xSg X2 k j = mSg f2 k j ∧ xOk (xSg X2 k j) = true) (hE : xE X < 2 ^ xn X2) (hb : ∀ k, k < xn X2 → mE f2 k = b2i ((xE X).testBit k)) : Rl X2 f2 := by
  have e4 : mn f2 = xn X2 := by unfold mn; rw [hn]; rfl
  have e8 : mp f2 = mp f := by unfold mp; rw [hf 8 (by omega) (by omega)]
  have ep : xp X2 = xp X := by unfold xp; rw [h5 1 (by decide)]
  have ee : xE X2 = xE X := by unfold xE; rw [h5 6 (by decide)]
  have el : ∀ k, k < xn X2 → ml f2 k = xl X2 k := fun k hk => by
    have := hX.l16 (show k < 20 from Nat.lt_of_lt_of_le hk hX.n20)
    unfold ml
    rw [hl k hk, nI_clamp (by omega)]
  have hM : okM f2 := by
    refine ⟨by rw [e4, hn]; exact hX.n, by rw [e4]; exact hX.n20, fun k hk => ?_, by rw [e8, hf 8 (by omega) (by omega)]; exact h.m.p, by rw [e8]; exact h.m.p16, by rw [hf 3 (by omega) (by omega)]; exact h.m.c⟩
    rw [e4] at hk
    rw [el k hk]
    exact ⟨hl k hk, hl1 k hk, hX.l16 (show k < 20 from Nat.lt_of_lt_of_le hk hX.n20)⟩
  refine ⟨hX, hM, ⟨e4.symm, fun k hk => (el k hk).symm, hg⟩, ⟨?_, by rw [ee]; exact hE, fun k hk => by rw [ee]; exact hb k hk, fun q => ?_⟩, ⟨?_, fun j hj => ?_⟩, ?_⟩
  · rw [ee, h5 6 (by decide)]; exact h.E.1
  · rw [ee] at q
    rw [h5 7 (by decide), hf 5 (by omega) (by omega)]
    exact h.E.2.2.2 q
  · rw [ep, e8]; exact h.P.1
  · rw [ep] at hj
    have h16 := h.x.p16
    rw [h2, h3, h4, hf _ (by omega) (by omega), hf _ (by omega) (by omega), hf _ (by omega) (by omega)]
    exact h.P.2 j hj
  · unfold rS
    rw [h5 2 (by decide), h5 3 (by decide), h5 4 (by decide), h5 5 (by decide), h5 8 (by decide), h5 9 (by decide), hf 0 (by omega) (by omega), hf 1 (by omega) (by omega), hf 2 (by omega) (by omega), hf 3 (by omega) (by omega), hf 6 (by omega) (by omega), hf 7 (by omega) (by omega)]
    exact h.S
theorem xAd_r (X : XS) (tx : Nat → Int32) : ∀ i, xAd X tx i 2 = X 2 ∧ xAd X tx i 3 = X 3 ∧ xAd X tx i 4 = X 4 ∧ ∀ j, j ≠ 0 → xAd X tx i 5 j = X 5 j
  | 0 => ⟨rfl, rfl, rfl, fun j hj => upd_n hj⟩
  | i + 1 => by
    obtain ⟨a, b, c, d⟩ := xAd_r X tx i
    unfold xAd
    split
    · refine ⟨a, b, c, fun j hj => ?_⟩
      show upd (xAd X tx i 5) 0 _ j = _
      rw [upd_n hj]
      exact d j hj
    · exact ⟨a, b, c, d⟩
def PR (Y : Nat → XS) (M : XS) (i : Nat) : Prop := (∀ k, k < xn (xAd (Y 5) (Y 7 0) i) → mRw M i (57 + 18 * k) = nI (xl (xAd (Y 5) (Y 7 0) i) k) ∧ mRw M i (57 + 18 * k + 1) = if k < mn (M 0) then mE (M 0) k else 0) ∧ (∀ k j, k < xn (xAd (Y 5) (Y 7 0) i) → j < xl (xAd (Y 5) (Y 7 0) i) k → xSg (xAd (Y 5) (Y 7 0) i) k j = mRw M i (57 + 18 * k + (2 + j)) ∧ xOk (xSg (xAd (Y 5) (Y 7 0) i) k j) = true) ∧ ∀ k, k + 1 < xn (xAd (Y 5) (Y 7 0) i) → 1 ≤ xl (xAd (Y 5) (Y 7 0) i) k
theorem PR_go {Y : Nat → XS} {M : XS} (h : Rl (Y 5) (M 0)) (ht : Tx Y M) (hot : okT Y) (hno : ∀ j, j < yt Y → xBad Y j = false) (h20 : xn (Y 5) + xNmN Y (yt Y) ≤ 20) : ∀ i, i ≤ yt Y → PR Y M i
  | 0, _ => by
    have hok := h.x
    have h1 : 1 ≤ xNmN Y (yt Y) := xNmN_mono Y (Nat.zero_le _)
    have hn : xn (Y 5) < 20 := by omega
    have en := h.n
    have exn : xn (xBg (Y 5)) = xn (Y 5) + 1 := xn_bg hn
    have e0 : mRw M 0 = upd (upd (M 0) (57 + 18 * mn (M 0) + 0) 0) (57 + 18 * mn (M 0) + 1) 0 := rfl
    refine ⟨fun k hk => ?_, fun k j hk hj => ?_, fun k hk => ?_⟩
    · have hk2 : k < xn (xBg (Y 5)) := hk
      rw [exn] at hk2
      show mRw M 0 (57 + 18 * k) = nI (xl (xBg (Y 5)) k) ∧ _
      rw [xl_bg, e0]
      by_cases q : k = xn (Y 5)
      · rw [if_pos q, if_neg (by omega), q, en]
        refine ⟨?_, if_pos rfl⟩
        rw [upd_n (by omega)]
        exact if_pos (by omega)
      · have hk3 : k < xn (Y 5) := by omega
        rw [if_neg q, if_pos (by omega), upd_n (by omega), upd_n (by omega), upd_n (by omega), upd_n (by omega), h.l hk3]
        exact ⟨h.m.l (by omega), rfl⟩
    · have hk2 : k < xn (xBg (Y 5)) := hk
      rw [exn] at hk2
      have hj2 : j < xl (xBg (Y 5)) k := hj
      rw [xl_bg] at hj2
      by_cases q : k = xn (Y 5)
      · rw [if_pos q] at hj2
        exact absurd hj2 (Nat.not_lt_zero j)
      · rw [if_neg q] at hj2
        have hk3 : k < xn (Y 5) := by omega
        have hj16 : j < 16 := Nat.lt_of_lt_of_le hj2 (hok.l16 (by omega))
        show xSg (Y 5) k j = mRw M 0 (57 + 18 * k + (2 + j)) ∧ xOk (xSg (Y 5) k j) = true
        rw [e0, upd_n (by omega), upd_n (by omega)]
        exact h.N.2.2 k j hk3 hj2
    · have hk2 : k + 1 < xn (xBg (Y 5)) := hk
      rw [exn] at hk2
      show 1 ≤ xl (xBg (Y 5)) k
      rw [xl_bg, if_neg (by omega)]
      exact h.l1 (by omega)
  | i + 1, hi => by
    have ih := PR_go h ht hot hno h20 i (by omega)
    obtain ⟨p1, p3, p4⟩ := ih
    obtain ⟨a1, a2, a3⟩ := xAd_ok h.x hot hno h20 i (by omega)
    have h60 := hot.n60
    have hm := xNmN_mono Y hi
    have hb := hno i (by omega)
    have en := h.n
    have enm := rNm ht (show i ≤ 60 by omega)
    have h1 : 1 ≤ xNmN Y i := xNmN_mono Y (Nat.zero_le _)
    have ece := mCe_eq M i
    obtain ⟨s1, s2, s3, s4⟩ := rSc ht (i := i) (by omega) (fun j hj => hno j (by omega))
    have etx := ht.2 i (by omega)
    by_cases q : Y 7 0 i = 59
    · have q2 : M 3 i = 59 := by rw [← etx]; exact q
      rw [xNmN_p q] at hm
      have hn : xn (xAd (Y 5) (Y 7 0) i) < 20 := by omega
      have exn := xn_bg hn
      have bl : (xSc Y i).2 = true := by
        unfold xBad xAl at hb
        rw [if_pos q] at hb
        simpa using hb
      have hs1 := xSc_1 bl
      unfold PR
      rw [xAd_p q, mRw_s, if_pos q2, exn]
      refine ⟨fun k hk => ?_, fun k j hk hj => ?_, fun k hk => ?_⟩
      · rw [xl_bg]
        by_cases y : k = xn (xAd (Y 5) (Y 7 0) i)
        · rw [if_pos y, if_neg (by omega)]
          refine ⟨?_, if_pos (by omega)⟩
          rw [upd_n (by omega)]
          exact if_pos (by omega)
        · rw [if_neg y, upd_n (by omega), upd_n (by omega), upd_n (by omega), upd_n (by omega)]
          exact p1 k (by omega)
      · rw [xl_bg] at hj
        by_cases y : k = xn (xAd (Y 5) (Y 7 0) i)
        · rw [if_pos y] at hj
          exact absurd hj (Nat.not_lt_zero j)
        · rw [if_neg y] at hj
          have hj16 : j < 16 := Nat.lt_of_lt_of_le hj (a1.l16 (Nat.lt_of_lt_of_le (show k < xn (xAd (Y 5) (Y 7 0) i) by omega) a1.n20))
          rw [upd_n (by omega), upd_n (by omega)]
          exact p3 k j (by omega) hj
      · rw [xl_bg, if_neg (by omega)]
        by_cases y : k + 1 < xn (xAd (Y 5) (Y 7 0) i)
        · exact p4 k y
        · have e : k = xn (xAd (Y 5) (Y 7 0) i) - 1 := by omega
          rw [e, a3]
          exact hs1
    · have q2 : ¬ M 3 i = 59 := by rw [← etx]; exact q
      have hs := xSc16 hb q
      have hl : xl (xAd (Y 5) (Y 7 0) i) (xn (xAd (Y 5) (Y 7 0) i) - 1) < 16 := by omega
      have hck : xOk (M 3 i) = true := by
        unfold xBad xAl at hb
        rw [if_neg q, if_neg (by omega), etx] at hb
        unfold xOk
        cases y : xL (M 3 i) with
        | true => rfl
        | false =>
          rw [y] at hb
          cases z : xMk (M 3 i) with
          | true => rfl
          | false =>
            rw [z] at hb
            simp at hb
      have ece2 : mCe M i = 57 + 18 * (xn (xAd (Y 5) (Y 7 0) i) - 1) := by omega
      unfold PR
      rw [xAd_n q, mRw_s, if_neg q2, ece2, ← s1, ← a3, etx]
      have exn : xn (xAp (xAd (Y 5) (Y 7 0) i) (M 3 i)) = xn (xAd (Y 5) (Y 7 0) i) := rfl
      rw [exn]
      refine ⟨fun k hk => ?_, fun k j hk hj => ?_, fun k hk => ?_⟩
      · rw [xl_ap hl]
        by_cases y : k = xn (xAd (Y 5) (Y 7 0) i) - 1
        · rw [if_pos y, y]
          refine ⟨if_pos rfl, ?_⟩
          rw [upd_n (by omega), upd_n (by omega)]
          exact (p1 _ (by omega)).2
        · rw [if_neg y, upd_n (by omega), upd_n (by omega), upd_n (by omega), upd_n (by omega)]
          exact p1 k hk
      · rw [xl_ap hl] at hj
        have esg : ∀ j, xSg (xAp (xAd (Y 5) (Y 7 0) i) (M 3 i)) k j = upd (xAd (Y 5) (Y 7 0) i 0) ((xn (xAd (Y 5) (Y 7 0) i) - 1) * 16 + xl (xAd (Y 5) (Y 7 0) i) (xn (xAd (Y 5) (Y 7 0) i) - 1)) (M 3 i) (k * 16 + j) := fun _ => rfl
        rw [esg]
        by_cases y : k = xn (xAd (Y 5) (Y 7 0) i) - 1
        · rw [if_pos y] at hj
          by_cases z : j = xl (xAd (Y 5) (Y 7 0) i) (xn (xAd (Y 5) (Y 7 0) i) - 1)
          · have e1 : upd (xAd (Y 5) (Y 7 0) i 0) ((xn (xAd (Y 5) (Y 7 0) i) - 1) * 16 + xl (xAd (Y 5) (Y 7 0) i) (xn (xAd (Y 5) (Y 7 0) i) - 1)) (M 3 i) (k * 16 + j) = M 3 i := if_pos (by rw [y, z])
            rw [e1]
            refine ⟨?_, hck⟩
            rw [upd_n (by omega)]
            exact (if_pos (by rw [y, z]; omega)).symm
          · have hj2 : j < xl (xAd (Y 5) (Y 7 0) i) k := by rw [y]; omega
            rw [upd_n (by omega), upd_n (by omega), upd_n (by omega)]
            exact p3 k j hk hj2
        · rw [if_neg y] at hj
          have hj16 : j < 16 := Nat.lt_of_lt_of_le hj (a1.l16 (Nat.lt_of_lt_of_le (show k < xn (xAd (Y 5) (Y 7 0) i) by omega) a1.n20))
          rw [upd_n (by omega), upd_n (by omega), upd_n (by omega)]
          exact p3 k j hk hj
      · rw [xl_ap hl, if_neg (by omega)]
        exact p4 k hk
theorem rReadN {Y : Nat → XS} {M : XS} (h : Rl (Y 5) (M 0)) (ht : Tx Y M) (hot : okT Y) (hno : xFault Y = (-1)) (h20 : xn (Y 5) + xNmN Y (yt Y) ≤ 20) : Rl (xAd (Y 5) (Y 7 0) (yt Y)) (upd (mRw M (mt M)) 4 (nI (mn (M 0) + mNm M (mt M)))) := by
  have h60 := hot.n60
  have hb := xFault_no h60 hno
  obtain ⟨p1, p3, p4⟩ := PR_go h ht hot hb h20 (yt Y) (Nat.le_refl _)
  obtain ⟨a1, a2, a3⟩ := xAd_ok h.x hot hb h20 (yt Y) (Nat.le_refl _)
  obtain ⟨r2, r3, r4, r5⟩ := xAd_r (Y 5) (Y 7 0) (yt Y)
  have et := ht.t
  have enm := rNm ht h60
  have en := h.n
  have hs : (xSc Y (yt Y)).2 = true := by
    have hfl : ¬ xFl Y < yt Y := fun q => by
      unfold xFault at hno
      rw [if_pos q] at hno
      exact nI_m1 (by omega) hno
    unfold xFault at hno
    rw [if_neg hfl] at hno
    cases q : (xSc Y (yt Y)).2 with
    | true => rfl
    | false =>
      rw [q, if_neg (by decide)] at hno
      exact absurd hno (nI_m1 (by omega))
  have hs1 := xSc_1 hs
  have hE : xE (Y 5) < 2 ^ xn (xAd (Y 5) (Y 7 0) (yt Y)) := Nat.lt_of_lt_of_le h.E.2.1 (Nat.pow_le_pow_right (by decide) (by omega))
  rw [← et]
  refine rlQ h a1 r2 r3 r4 r5 ?_ (fun q hq h4 => ?_) (fun k hk => ?_) (fun k hk => ?_) (fun k j hk hj => ?_) hE (fun k hk => ?_)
  · have e : upd (mRw M (yt Y)) 4 (nI (mn (M 0) + mNm M (yt Y))) 4 = nI (mn (M 0) + mNm M (yt Y)) := if_pos rfl
    rw [e, a1.n, a2, en, enm]
  · rw [upd_n h4]
    exact mRw_lo M hq _
  · rw [upd_n (by omega)]
    exact (p1 k hk).1
  · by_cases y : k + 1 < xn (xAd (Y 5) (Y 7 0) (yt Y))
    · exact p4 k y
    · have e : k = xn (xAd (Y 5) (Y 7 0) (yt Y)) - 1 := by omega
      rw [e, a3]
      exact hs1
  · have e : mSg (upd (mRw M (yt Y)) 4 (nI (mn (M 0) + mNm M (yt Y)))) k j = mRw M (yt Y) (57 + 18 * k + (2 + j)) := by unfold mSg; exact upd_n (by omega)
    rw [e]
    exact p3 k j hk hj
  · have e : mE (upd (mRw M (yt Y)) 4 (nI (mn (M 0) + mNm M (yt Y)))) k = mRw M (yt Y) (57 + 18 * k + 1) := by unfold mE; exact upd_n (by omega)
    rw [e, (p1 k hk).2]
    by_cases y : k < mn (M 0)
    · rw [if_pos y]
      exact h.E.2.2.1 k (by omega)
    · rw [if_neg y, Nat.testBit_lt_two_pow (Nat.lt_of_lt_of_le h.E.2.1 (Nat.pow_le_pow_right (by decide) (by omega)))]
      rfl
