/-! ===== names read from the text ===== -/
theorem shr_n {e k : Nat} (he : e < 1048576) (hk : k < 32) : nI e >>> (nI k &&& 31) = nI (e >>> k) := by
  rw [pk_shrN (by omega) (nI k &&& 31) k (by
    have : ∀ j, j < 32 → ((nI j &&& 31).toBitVec.smod 32).toNat = j := by decide +kernel
    exact this k hk), Nat.shiftRight_eq_div_pow]
theorem xl_xMk {c : Int32} (h : xL c = true) : xMk c = false := xl_pt h
theorem xSg_bg (X : XS) (k j : Nat) : xSg (xBg X) k j = xSg X k j := rfl
theorem xSg_ap {X : XS} {c : Int32} {k j : Nat} (hj : j < 16) (hl : xl X (xn X - 1) < 16) : xSg (xAp X c) k j = if k = xn X - 1 ∧ j = xl X (xn X - 1) then c else xSg X k j := by
  show upd (X 0) ((xn X - 1) * 16 + xl X (xn X - 1)) c (k * 16 + j) = _
  unfold upd
  by_cases h : k = xn X - 1 ∧ j = xl X (xn X - 1)
  · rw [if_pos h, if_pos (by rw [h.1, h.2])]
  · rw [if_neg h, if_neg (fun q => h (by omega))]
    rfl
/-- behind i characters: the names that were there are as they were; the new ones are well formed so far -/
def AR (Y : Nat → XS) (X : XS) (i : Nat) : Prop := vN X ∧ (∀ k, k < xn (Y 5) → xl X k = xl (Y 5) k ∧ ∀ j, j < 16 → xSg X k j = xSg (Y 5) k j) ∧ (0 < xl X (xn X - 1) → (xSc Y i).2 = xL (xSg X (xn X - 1) (xl X (xn X - 1) - 1)))
theorem AR_go {Y : Nat → XS} (hok : okX (Y 5)) (hv : vN (Y 5)) (hot : okT Y) (hno : ∀ j, j < yt Y → xBad Y j = false) (h20 : xn (Y 5) + xNmN Y (yt Y) ≤ 20) : ∀ i, i ≤ yt Y → AR Y (xAd (Y 5) (Y 7 0) i) i
  | 0, _ => by
    have h1 : 1 ≤ xNmN Y (yt Y) := xNmN_mono Y (Nat.zero_le _)
    have hn : xn (Y 5) < 20 := by omega
    show AR Y (xBg (Y 5)) 0
    refine ⟨fun k hk => ?_, fun k hk => ⟨?_, fun j _ => rfl⟩, fun q => ?_⟩
    · rw [xn_bg hn] at hk
      rw [xl_bg]
      by_cases z : k = xn (Y 5)
      · rw [if_pos z]
        exact ⟨fun q => absurd q (Nat.lt_irrefl _), fun j hj => absurd hj (Nat.not_lt_zero _)⟩
      · rw [if_neg z]
        exact hv k (by omega)
    · rw [xl_bg, if_neg (by omega)]
    · rw [xl_bg, xn_bg hn, if_pos (by omega)] at q
      exact absurd q (Nat.lt_irrefl _)
  | i + 1, hi => by
    obtain ⟨b1, b2, b3⟩ := AR_go hok hv hot hno h20 i (by omega)
    obtain ⟨a1, a2, a3⟩ := xAd_ok hok hot hno h20 i (by omega)
    have hm := xNmN_mono Y hi
    have hb := hno i (by omega)
    have h1 : 1 ≤ xNmN Y i := xNmN_mono Y (Nat.zero_le _)
    by_cases h : Y 7 0 i = 59
    · rw [xNmN_p h] at hm
      have hn : xn (xAd (Y 5) (Y 7 0) i) < 20 := by omega
      rw [xAd_p h]
      generalize xAd (Y 5) (Y 7 0) i = X at *
      refine ⟨fun k hk => ?_, fun k hk => ⟨?_, fun j hj => (b2 k hk).2 j hj⟩, fun q => ?_⟩
      · rw [xn_bg hn] at hk
        rw [xl_bg]
        by_cases z : k = xn X
        · rw [if_pos z]
          exact ⟨fun q => absurd q (Nat.lt_irrefl _), fun j hj => absurd hj (Nat.not_lt_zero _)⟩
        · rw [if_neg z]
          exact b1 k (by omega)
      · rw [xl_bg, if_neg (by omega)]
        exact (b2 k hk).1
      · rw [xl_bg, xn_bg hn, if_pos (by omega)] at q
        exact absurd q (Nat.lt_irrefl _)
    · have hs := xSc16 hb h
      have hl : xl (xAd (Y 5) (Y 7 0) i) (xn (xAd (Y 5) (Y 7 0) i) - 1) < 16 := by omega
      have hal : xAl (Y 7 0 i) (xSc Y i).1 (xSc Y i).2 = true := by
        unfold xBad at hb
        simpa using hb
      unfold xAl at hal
      rw [if_neg h, if_neg (by omega)] at hal
      have hbl : (xSc Y i).2 = true → 1 ≤ (xSc Y i).1 := xSc_1
      rw [xAd_n h, AR, xSc_s, if_neg h]
      generalize xAd (Y 5) (Y 7 0) i = X at *
      generalize hc9 : Y 7 0 i = c at *
      have hx : 1 ≤ xn X := by omega
      have exn : xn (xAp X c) = xn X := rfl
      refine ⟨fun k hk => ?_, fun k hk => ?_, fun q => ?_⟩
      · rw [exn] at hk
        have lk16 := a1.l16 (show k < 20 from Nat.lt_of_lt_of_le hk a1.n20)
        obtain ⟨c1, c2⟩ := b1 k hk
        by_cases z : k = xn X - 1
        · subst z
          have el : xl (xAp X c) (xn X - 1) = xl X (xn X - 1) + 1 := by rw [xl_ap hl, if_pos rfl]
          rw [el]
          refine ⟨fun _ => ?_, fun j hj => ?_⟩
          · rw [xSg_ap (by decide) hl]
            by_cases w : xl X (xn X - 1) = 0
            · rw [if_pos ⟨rfl, w.symm⟩]
              have : (xSc Y i).2 = false := by
                cases e : (xSc Y i).2 with
                | false => rfl
                | true => have := hbl e; omega
              rw [this, Bool.false_and, Bool.or_false] at hal
              exact hal
            · rw [if_neg (fun y => w y.2.symm)]
              exact c1 (by omega)
          · rw [xSg_ap (by omega) hl, xSg_ap (by omega) hl, if_neg (by omega)]
            by_cases w : j + 1 = xl X (xn X - 1)
            · rw [if_pos ⟨rfl, w⟩]
              have hb3 := b3 (by omega)
              rw [show xl X (xn X - 1) - 1 = j by omega] at hb3
              rcases Bool.or_eq_true_iff.mp hal with y | y
              · exact Or.inr y
              · rw [hb3] at y
                exact Or.inl (Bool.and_eq_true_iff.mp y).1
            · rw [if_neg (fun y => w y.2)]
              exact c2 j (by omega)
        · have el : xl (xAp X c) k = xl X k := by rw [xl_ap hl, if_neg z]
          rw [el, xSg_ap (by decide) hl, if_neg (fun y => z y.1)]
          refine ⟨c1, fun j hj => ?_⟩
          rw [xSg_ap (by omega) hl, xSg_ap (by omega) hl, if_neg (fun y => z y.1), if_neg (fun y => z y.1)]
          exact c2 j hj
      · have hne : k ≠ xn X - 1 := by omega
        rw [xl_ap hl, if_neg hne]
        refine ⟨(b2 k hk).1, fun j hj => ?_⟩
        rw [xSg_ap hj hl, if_neg (fun y => hne y.1)]
        exact (b2 k hk).2 j hj
      · show xL c = xL (xSg (xAp X c) (xn X - 1) (xl (xAp X c) (xn X - 1) - 1))
        rw [xl_ap hl, if_pos rfl, xSg_ap (by omega) hl, if_pos ⟨rfl, by omega⟩]
theorem vX_ad {Y : Nat → XS} {f : Nat → Int32} (hr : Rl (Y 5) f) (h : vX (Y 5)) (hot : okT Y) (hno : ∀ j, j < yt Y → xBad Y j = false) (h20 : xn (Y 5) + xNmN Y (yt Y) ≤ 20) : vX (xAd (Y 5) (Y 7 0) (yt Y)) := by
  obtain ⟨b1, b2, b3⟩ := AR_go hr.x h.N hot hno h20 (yt Y) (Nat.le_refl _)
  obtain ⟨a1, a2, a3⟩ := xAd_ok hr.x hot hno h20 (yt Y) (Nat.le_refl _)
  obtain ⟨r2, r3, r4, r5⟩ := xAd_r (Y 5) (Y 7 0) (yt Y)
  have hn := hr.x.n20
  generalize xAd (Y 5) (Y 7 0) (yt Y) = X2 at *
  refine ⟨b1, vP_cg h.P r2 r3 (r5 1 (by decide)), fun k hk q => ?_⟩
  rw [xEb_cg (r5 6 (by decide))] at q
  have hk2 : k < xn (Y 5) := by
    rcases Nat.lt_or_ge k (xn (Y 5)) with z | z
    · exact z
    · have h20' := a1.n20
      have e : xEb (Y 5) k = false := by
        have e1 := hr.E.1
        have e2 := hr.E.2.1
        unfold xEb
        rw [e1]
        have e3 : nI (xE (Y 5)) >>> (nI k &&& 31) = nI (xE (Y 5) >>> k) := shr_n (xE_lt hr) (by omega)
        rw [e3, Nat.shiftRight_eq_div_pow, Nat.div_eq_of_lt (Nat.lt_of_lt_of_le e2 (Nat.pow_le_pow_right (by decide) z))]
        rfl
      rw [e] at q
      cases q
  have l16 := hr.x.l16 (show k < 20 by omega)
  obtain ⟨l1, l2⟩ := b2 k hk2
  have hu : xU X2 k = xU (Y 5) k := xU_cg l16 l1 l2 (fun j _ => xAdj_cg r2 r3 r4 (r5 1 (by decide)) _ _)
  rw [xFits_cg hu (r5 2 (by decide)) (r5 3 (by decide)) (r5 4 (by decide)) (r5 5 (by decide)), r5 7 (by decide)]
  exact h.F k hk2 q
