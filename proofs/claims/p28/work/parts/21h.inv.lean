/-! ===== the plate and the model, the whole of them ===== -/
theorem Rl.cg {X : XS} {f g : Nat → Int32} (h : Rl X f) (e : ∀ q, q < 417 → g q = f q) : Rl X g := by
  have hn := h.x.n20
  refine rlS (fun k => k) h h.x (fun _ hk => hk) rfl rfl rfl (fun _ _ => rfl) ?_ (fun q hq _ => e q (by omega)) (fun _ _ => rfl) (fun _ _ _ _ => rfl) (fun k c hk hc => e _ (by omega)) h.E.2.1 (fun _ _ => rfl)
  rw [e 4 (by decide), h.m.n, ← h.n]
  exact h.x.n.symm
def Hs (Y : Nat → XS) (M : XS) : Prop := okH Y ∧ Y 7 5 1 = M 4 0 ∧ ∀ j, j < yq Y → Rl (Y ((yo Y + j) % 5)) (fun q => M 1 (417 * j + q))
def Ts (Y : Nat → XS) (M : XS) : Prop := okT Y ∧ Tx Y M
def Sn (Y : Nat → XS) (M : XS) : Prop := Y 7 5 3 = M 4 1 ∧ (¬ M 4 1 = 0 → Rl (Y 6) (M 2))
def Inv (Y : Nat → XS) (M : XS) : Prop := Rl (Y 5) (M 0) ∧ Hs Y M ∧ Ts Y M ∧ Sn Y M ∧ ∀ i, i < 7 → okX (Y i)
theorem Inv.r {Y : Nat → XS} {M : XS} (h : Inv Y M) : Rl (Y 5) (M 0) := h.1
theorem Inv.h {Y : Nat → XS} {M : XS} (h : Inv Y M) : Hs Y M := h.2.1
theorem Inv.t {Y : Nat → XS} {M : XS} (h : Inv Y M) : Ts Y M := h.2.2.1
theorem Inv.s {Y : Nat → XS} {M : XS} (h : Inv Y M) : Sn Y M := h.2.2.2.1
theorem Inv.x {Y : Nat → XS} {M : XS} (h : Inv Y M) : ∀ i, i < 7 → okX (Y i) := h.2.2.2.2
theorem Hs.k {Y : Nat → XS} {M : XS} (h : Hs Y M) : mk M = yq Y := by
  unfold mk yq
  rw [h.2.1]
theorem Hs.K {Y : Nat → XS} {M : XS} (h : Hs Y M) : okK M := by
  refine ⟨?_, ?_⟩
  · rw [h.k, ← h.2.1]
    exact h.1.q
  · rw [h.k]
    exact h.1.q5
theorem Ts.m {Y : Nat → XS} {M : XS} (h : Ts Y M) : okMT M := by
  refine ⟨?_, ?_, fun j hj => ?_⟩
  · rw [← h.2.t, ← h.2.1]
    exact h.1.n
  · rw [← h.2.t]
    exact h.1.n60
  · rw [← h.2.2 j hj]
    exact h.1.c hj
theorem Hs.cg {Y Z : Nat → XS} {M N : XS} (h : Hs Y M) (e0 : Z 7 5 0 = Y 7 5 0) (e1 : Z 7 5 1 = Y 7 5 1) (eY : ∀ i, i < 5 → Z i = Y i) (e4 : N 4 0 = M 4 0) (eM : N 1 = M 1) : Hs Z N := by
  have ho : yo Z = yo Y := by unfold yo; rw [e0]
  have hq : yq Z = yq Y := by unfold yq; rw [e1]
  refine ⟨⟨by rw [e0, ho]; exact h.1.o, by rw [ho]; exact h.1.o5, by rw [e1, hq]; exact h.1.q, by rw [hq]; exact h.1.q5⟩, by rw [e1, e4]; exact h.2.1, fun j hj => ?_⟩
  rw [hq] at hj
  rw [ho, eM, eY _ (Nat.mod_lt _ (by decide))]
  exact h.2.2 j hj
theorem Ts.cg {Y Z : Nat → XS} {M N : XS} (h : Ts Y M) (e2 : Z 7 5 2 = Y 7 5 2) (e0 : Z 7 0 = Y 7 0) (e4 : N 4 2 = M 4 2) (e3 : N 3 = M 3) : Ts Z N := by
  have ht : yt Z = yt Y := by unfold yt; rw [e2]
  refine ⟨⟨by rw [e2, ht]; exact h.1.n, by rw [ht]; exact h.1.n60, fun j hj => by rw [e0]; exact h.1.c hj⟩, by rw [e2, e4]; exact h.2.1, fun j hj => by rw [e0, e3]; exact h.2.2 j hj⟩
theorem Sn.cg {Y Z : Nat → XS} {M N : XS} (h : Sn Y M) (e7 : Z 7 5 3 = Y 7 5 3) (e6 : Z 6 = Y 6) (e4 : N 4 1 = M 4 1) (e2 : N 2 = M 2) : Sn Z N := by
  unfold Sn
  rw [e7, e6, e4, e2]
  exact h
theorem yRz_lt {Y : Nat → XS} (h : yq Y < 5) : yRz Y = upd (Y 7 5) 1 (nI (yq Y + 1)) := by
  funext j
  unfold yRz upd
  rw [if_pos h, if_pos h]
  by_cases h0 : j = 0
  · rw [if_pos h0, if_neg (by omega), h0]
  · rw [if_neg h0]
theorem yRz_ge {Y : Nat → XS} (h : ¬ yq Y < 5) : yRz Y = upd (upd (Y 7 5) 0 (nI ((yo Y + 1) % 5))) 1 (nI (yq Y - 1 + 1)) := by
  funext j
  unfold yRz upd
  rw [if_neg h, if_neg h]
  by_cases h1 : j = 1
  · rw [if_neg (by omega), if_pos h1, if_pos h1]
  · rw [if_neg h1, if_neg h1]
theorem yRz_hi (Y : Nat → XS) {j : Nat} (h : 1 < j) : yRz Y j = Y 7 5 j := by
  unfold yRz
  rw [if_neg (by omega), if_neg (by omega)]
theorem yRs_lt (Y : Nat → XS) : yRs Y < 5 := by
  unfold yRs
  split <;> exact Nat.mod_lt _ (by decide)
theorem yRec_at (Y : Nat → XS) {i : Nat} (h : i < 5) : yRec Y i = if i = yRs Y then Y 5 else Y i := by
  unfold yRec
  rw [va_up_ne _ _ (by omega)]
  unfold ysH
  rw [if_neg (by omega), if_neg (by omega), if_neg (by omega)]
theorem Hs_rec {Y : Nat → XS} {M : XS} (h : Hs Y M) (hr : Rl (Y 5) (M 0)) : Hs (yRec Y) (mRec M) := by
  obtain ⟨hok, h1, hh⟩ := h
  have hk : mk M = yq Y := Hs.k ⟨hok, h1, hh⟩
  have o5 := hok.o5
  have q5 := hok.q5
  have e7 : yRec Y 7 5 = yRz Y := rfl
  have eM : mRec M 1 = mRh M := rfl
  have e4 : mRec M 4 0 = mRk M := rfl
  by_cases q : yq Y < 5
  · have z := yRz_lt q
    have eo : yo (yRec Y) = yo Y := by unfold yo; rw [e7, z, upd_n (by decide)]
    have eq1 : yRec Y 7 5 1 = nI (yq Y + 1) := by rw [e7, z]; exact if_pos rfl
    have eq : yq (yRec Y) = yq Y + 1 := by
      show (yRec Y 7 5 1).toNatClampNeg = _
      rw [eq1, nI_clamp (by omega)]
    have ek : mRk M = nI (yq Y + 1) := by unfold mRk; rw [if_neg (by omega), hk]
    have er : mRh M = cpN (M 1) (M 0) (417 * yq Y) 417 := by unfold mRh; rw [if_neg (by omega), hk]
    have es : yRs Y = (yo Y + yq Y) % 5 := if_pos q
    refine ⟨⟨?_, by rw [eo]; exact o5, by rw [eq1, eq], by rw [eq]; omega⟩, by rw [eq1, e4, ek], fun j hj => ?_⟩
    · rw [e7, eo, z, upd_n (by decide)]
      exact hok.o
    · rw [eq] at hj
      rw [eo, yRec_at Y (Nat.mod_lt _ (by decide)), es, eM, er]
      by_cases y : j = yq Y
      · rw [if_pos (by rw [y])]
        refine hr.cg (fun r hlt => ?_)
        show cpN (M 1) (M 0) (417 * yq Y) 417 (417 * j + r) = M 0 r
        unfold cpN
        rw [if_pos (by omega)]
        exact congrArg (M 0) (by omega)
      · rw [if_neg (by omega)]
        refine (hh j (by omega)).cg (fun r hlt => ?_)
        show cpN (M 1) (M 0) (417 * yq Y) 417 (417 * j + r) = M 1 (417 * j + r)
        unfold cpN
        rw [if_neg (by omega)]
  · have z := yRz_ge q
    have q1 : yq Y = 5 := by omega
    have eo1 : yRec Y 7 5 0 = nI ((yo Y + 1) % 5) := by
      rw [e7, z, upd_n (by decide)]
      exact if_pos rfl
    have eo : yo (yRec Y) = (yo Y + 1) % 5 := by
      show (yRec Y 7 5 0).toNatClampNeg = _
      rw [eo1, nI_clamp (by omega)]
    have eq1 : yRec Y 7 5 1 = nI (yq Y - 1 + 1) := by rw [e7, z]; exact if_pos rfl
    have eq : yq (yRec Y) = 5 := by
      show (yRec Y 7 5 1).toNatClampNeg = _
      rw [eq1, q1]
      rfl
    have ek : mRk M = nI (yq Y - 1 + 1) := by unfold mRk; rw [if_pos (by omega), hk]
    have er : mRh M = cpN (mvN (M 1) 417 0 1668) (M 0) (417 * (yq Y - 1)) 417 := by unfold mRh; rw [if_pos (by omega), hk]
    have es : yRs Y = ((yo Y + 1) % 5 + (yq Y - 1)) % 5 := if_neg q
    refine ⟨⟨by rw [eo1, eo], by rw [eo]; omega, by rw [eq1, eq, q1], by rw [eq]; exact Nat.le_refl _⟩, by rw [eq1, e4, ek], fun j hj => ?_⟩
    rw [eq] at hj
    rw [eo, yRec_at Y (Nat.mod_lt _ (by decide)), es, eM, er, q1]
    by_cases y : j = 4
    · rw [if_pos (by rw [y])]
      refine hr.cg (fun r hlt => ?_)
      show cpN (mvN (M 1) 417 0 1668) (M 0) (417 * (5 - 1)) 417 (417 * j + r) = M 0 r
      unfold cpN
      rw [if_pos (by omega)]
      exact congrArg (M 0) (by omega)
    · rw [if_neg (by omega)]
      have e := hh (j + 1) (by omega)
      have es2 : ((yo Y + 1) % 5 + j) % 5 = (yo Y + (j + 1)) % 5 := by omega
      rw [es2]
      refine e.cg (fun r hlt => ?_)
      show cpN (mvN (M 1) 417 0 1668) (M 0) (417 * (5 - 1)) 417 (417 * j + r) = M 1 (417 * (j + 1) + r)
      unfold cpN mvN
      rw [if_neg (by omega), if_pos (by omega)]
      exact congrArg (M 1) (by omega)
theorem Inv.act {Y : Nat → XS} {M X : XS} {f : Nat → Int32} (h : Inv Y M) (hr : Rl X f) : Inv (va_up (yRec Y) 5 X) (va_up (mRec M) 0 f) := by
  refine ⟨hr, (Hs_rec h.h h.r).cg rfl rfl (fun i hi => va_up_ne _ _ (by omega)) rfl rfl, h.t.cg (yRz_hi Y (j := 2) (by decide)) rfl rfl rfl, h.s.cg (yRz_hi Y (j := 3) (by decide)) rfl rfl rfl, fun i hi => ?_⟩
  by_cases q : i = 5
  · subst q
    exact hr.x
  · rw [va_up_ne _ _ q]
    by_cases q6 : i = 6
    · subst q6
      exact h.x 6 (by decide)
    · rw [yRec_at Y (by omega)]
      split
      · exact h.x 5 (by decide)
      · exact h.x i hi
def Sm (u : yR) (v : mR) : Prop := u.1 = v.1 ∧ Inv u.2 v.2
theorem Sm.of {Y : Nat → XS} {M : XS} {v : Int32} (h : Inv Y M) : Sm (v, Y) (v, M) := ⟨rfl, h⟩
theorem Sm.go {Y : Nat → XS} {M X : XS} {f : Nat → Int32} {v w : Int32} (h : Inv Y M) (e : v = w) (hr : Rl X f) : Sm (v, va_up (yRec Y) 5 X) (w, va_up (mRec M) 0 f) := ⟨e, h.act hr⟩
