/-! ===== the plate's world and its parts ===== -/
theorem va_P.mem {D : va_G} {cl : List vw_C} {ws : va_W} {H : Heap} (h : va_P D cl ws H) {q : Nat × va_E} (hq : q ∈ ws) : va_at D cl q H := by
  obtain ⟨k, hk⟩ := List.getElem?_of_mem hq
  exact h k q hk
theorem va_P.all {D : va_G} {cl : List vw_C} {ws : va_W} {H : Heap} (h : ∀ q ∈ ws, va_at D cl q H) : va_P D cl ws H := fun k q hk => h q (List.mem_of_getElem? hk)
theorem nodup_get {l : List Nat} : l.Nodup ↔ ∀ (i j a : Nat), l[i]? = some a → l[j]? = some a → i = j := by
  rw [List.Nodup, List.pairwise_iff_getElem]
  constructor
  · intro h i j a hi hj
    obtain ⟨h1, e1⟩ := List.getElem?_eq_some_iff.mp hi
    obtain ⟨h2, e2⟩ := List.getElem?_eq_some_iff.mp hj
    rcases Nat.lt_trichotomy i j with q | q | q
    · exact absurd (e1.trans e2.symm) (h i j h1 h2 q)
    · exact q
    · exact absurd (e2.trans e1.symm) (h j i h2 h1 q)
  · intro h i j hi hj hij heq
    have := h i j l[i] (List.getElem?_eq_getElem hi) (by rw [heq]; exact List.getElem?_eq_getElem hj)
    omega
theorem va_D.nd {A : Nat → Prop} {ws : va_W} (h : va_D A ws) : (ws.map Prod.fst).Nodup := by
  refine nodup_get.mpr (fun i j a hi hj => ?_)
  rw [List.getElem?_map] at hi hj
  cases h1 : ws[i]? with
  | none => rw [h1] at hi; cases hi
  | some p =>
    cases h2 : ws[j]? with
    | none => rw [h2] at hj; cases hj
    | some q =>
      rw [h1] at hi
      rw [h2] at hj
      exact h.1 i j p q h1 h2 ((Option.some.inj hi).trans (Option.some.inj hj).symm)
theorem va_D.of_nd {A : Nat → Prop} {ws : va_W} (h : (ws.map Prod.fst).Nodup) (hA : ∀ a ∈ ws.map Prod.fst, A a) : va_D A ws := by
  refine ⟨fun i j p q hi hj hpq => ?_, fun k q hk => hA _ (List.mem_map.mpr ⟨q, List.mem_of_getElem? hk, rfl⟩)⟩
  refine nodup_get.mp h i j p.1 ?_ ?_
  · rw [List.getElem?_map, hi]; rfl
  · rw [List.getElem?_map, hj, hpq]; rfl
theorem va_D.sl {A : Nat → Prop} {ws ws1 : va_W} (h : va_D A ws) (hs : (ws1.map Prod.fst).Sublist (ws.map Prod.fst)) : va_D (wA ws1) ws1 := va_D.of_nd (h.nd.sublist hs) (fun _ h => h)
theorem plT_mem {G : GG} {AD : Nat → Nat → Nat} {Y : Nat → XS} {i : Nat} {q : Nat × va_E} : ∀ {n : Nat}, i < n → q ∈ stC G (AD i) (Y i) → q ∈ plT G AD Y n
  | 0, h, _ => absurd h (Nat.not_lt_zero _)
  | n + 1, h, hq => by
    unfold plT
    rcases Nat.lt_or_ge i n with z | z
    · exact List.mem_append_left _ (plT_mem z hq)
    · have : i = n := by omega
      subst this
      exact List.mem_append_right _ hq
theorem plT_of {G : GG} {AD : Nat → Nat → Nat} {Y : Nat → XS} {q : Nat × va_E} : ∀ {n : Nat}, q ∈ plT G AD Y n → ∃ i, i < n ∧ q ∈ stC G (AD i) (Y i)
  | 0, h => by simp [plT] at h
  | n + 1, h => by
    unfold plT at h
    rcases List.mem_append.mp h with z | z
    · obtain ⟨i, hi, hq⟩ := plT_of z
      exact ⟨i, by omega, hq⟩
    · exact ⟨n, by omega, z⟩
theorem plT_sl {G : GG} {AD : Nat → Nat → Nat} {Y : Nat → XS} {i : Nat} : ∀ {n : Nat}, i < n → ((stC G (AD i) (Y i)).map Prod.fst).Sublist ((plT G AD Y n).map Prod.fst)
  | 0, h => absurd h (Nat.not_lt_zero _)
  | n + 1, h => by
    unfold plT
    rw [List.map_append]
    rcases Nat.lt_or_ge i n with z | z
    · exact (plT_sl z).trans (List.sublist_append_left _ _)
    · have : i = n := by omega
      subst this
      exact List.sublist_append_right _ _
theorem plT_dis {G : GG} {AD : Nat → Nat → Nat} {Y : Nat → XS} {i j : Nat} : ∀ {n : Nat}, ((plT G AD Y n).map Prod.fst).Nodup → i < n → j < n → i ≠ j → ∀ x ∈ (stC G (AD i) (Y i)).map Prod.fst, ∀ y ∈ (stC G (AD j) (Y j)).map Prod.fst, x ≠ y
  | 0, _, h, _, _ => absurd h (Nat.not_lt_zero _)
  | n + 1, hn, hi, hj, hij => by
    intro x hx y hy
    unfold plT at hn
    rw [List.map_append] at hn
    obtain ⟨n1, n2, n3⟩ := List.nodup_append.mp hn
    rcases Nat.lt_or_ge i n with z | z <;> rcases Nat.lt_or_ge j n with z2 | z2
    · exact plT_dis n1 z z2 hij x hx y hy
    · have : j = n := by omega
      subst this
      exact n3 x ((plT_sl z).subset hx) y hy
    · have : i = n := by omega
      subst this
      exact fun q => n3 y ((plT_sl z2).subset hy) x hx q.symm
    · omega
section PL
variable {G : GG} {a : Nat → Nat} {AD : Nat → Nat → Nat} {Y : Nat → XS} {H H1 : Heap} {A : Nat → Prop} {i j : Nat}
theorem pl_mem (hi : i < 7) {q : Nat × va_E} (hq : q ∈ stC G (AD i) (Y i)) : q ∈ plC G a AD Y := List.mem_append_right _ (plT_mem hi hq)
theorem pl_st (hP : va_P G.1 vwCl (plC G a AD Y) H) (hi : i < 7) : va_P G.1 vwCl (stC G (AD i) (Y i)) H := va_P.all (fun _ hq => hP.mem (pl_mem hi hq))
theorem pl_sl (hi : i < 7) : ((stC G (AD i) (Y i)).map Prod.fst).Sublist ((plC G a AD Y).map Prod.fst) := by
  unfold plC
  rw [List.map_append]
  exact (plT_sl hi).trans (List.sublist_append_right _ _)
theorem pl_D (hD : va_D A (plC G a AD Y)) (hi : i < 7) : va_D (wA (stC G (AD i) (Y i))) (stC G (AD i) (Y i)) := hD.sl (pl_sl hi)
theorem pl_wA (hi : i < 7) {q : Nat} (hq : wA (stC G (AD i) (Y i)) q) : wA (plC G a AD Y) q := (pl_sl hi).subset hq
theorem pl_Dput {Y2 : Nat → XS} (hD : va_D A (plC G a AD Y)) : va_D A (plC G a AD Y2) := hD.fst rfl
theorem plH_up {X : XS} (hi : i < 7) : plH G a AD (va_up Y i X) = plH G a AD Y := by
  have e : (va_up Y i X) 7 = Y 7 := va_up_ne _ _ (by omega)
  unfold plH
  rw [e]
theorem pl_dis (hD : va_D A (plC G a AD Y)) (hi : i < 7) (hj : j < 7) (hij : i ≠ j) : ∀ x ∈ (stC G (AD i) (Y i)).map Prod.fst, ∀ y ∈ (stC G (AD j) (Y j)).map Prod.fst, x ≠ y := by
  have h := hD.nd
  unfold plC at h
  rw [List.map_append] at h
  exact plT_dis (List.nodup_append.mp h).2.1 hi hj hij
theorem pl_disH (hD : va_D A (plC G a AD Y)) (hi : i < 7) : ∀ x ∈ (plH G a AD Y).map Prod.fst, ∀ y ∈ (stC G (AD i) (Y i)).map Prod.fst, x ≠ y := by
  have h := hD.nd
  unfold plC at h
  rw [List.map_append] at h
  exact fun x hx y hy => (List.nodup_append.mp h).2.2 x hx y ((plT_sl hi).subset hy)
theorem pl_put {X : XS} (hP : va_P G.1 vwCl (plC G a AD Y) H) (hD : va_D A (plC G a AD Y)) (hi : i < 7) (hk : ∀ q : Nat, q < H.size → ¬ wA (stC G (AD i) (Y i)) q → H1[q]? = H[q]?) (hP1 : va_P G.1 vwCl (stC G (AD i) X) H1) : va_P G.1 vwCl (plC G a AD (va_up Y i X)) H1 := by
  refine va_P.all (fun q hq => ?_)
  have keep : q ∈ plC G a AD Y → ¬ wA (stC G (AD i) (Y i)) q.1 → va_at G.1 vwCl q H1 := fun h1 h2 => (hP.mem h1).kept (hk q.1 (hP.mem h1).lt h2)
  unfold plC at hq
  rcases List.mem_append.mp hq with h | h
  · rw [plH_up hi] at h
    exact keep (List.mem_append_left _ h) (fun z => pl_disH hD hi q.1 (List.mem_map.mpr ⟨q, h, rfl⟩) q.1 z rfl)
  · obtain ⟨j, hj, h⟩ := plT_of h
    by_cases hij : j = i
    · subst hij
      rw [va_up_self] at h
      exact hP1.mem h
    · rw [va_up_ne _ _ hij] at h
      exact keep (pl_mem hj h) (fun z => pl_dis hD hj hi hij q.1 (List.mem_map.mpr ⟨q, h, rfl⟩) q.1 z rfl)
/-- two of its states together -/
theorem pl_st2 (hP : va_P G.1 vwCl (plC G a AD Y) H) (hi : i < 7) (hj : j < 7) : va_P G.1 vwCl (stC G (AD i) (Y i) ++ stC G (AD j) (Y j)) H := (pl_st hP hi).app (pl_st hP hj)
theorem pl_D2 (hD : va_D A (plC G a AD Y)) (hi : i < 7) (hj : j < 7) (hij : i ≠ j) : va_D (wA (stC G (AD i) (Y i) ++ stC G (AD j) (Y j))) (stC G (AD i) (Y i) ++ stC G (AD j) (Y j)) := by
  refine va_D.of_nd ?_ (fun _ h => h)
  rw [List.map_append]
  exact List.nodup_append.mpr ⟨(pl_D hD hi).nd, (pl_D hD hj).nd, pl_dis hD hi hj hij⟩
theorem pl_wA2 (hi : i < 7) (hj : j < 7) {q : Nat} (hq : wA (stC G (AD i) (Y i) ++ stC G (AD j) (Y j)) q) : wA (plC G a AD Y) q := by
  unfold wA at hq
  rw [List.map_append] at hq
  rcases List.mem_append.mp hq with h | h
  · exact (pl_sl hi).subset h
  · exact (pl_sl hj).subset h
theorem pl_put2 {X : XS} (hP : va_P G.1 vwCl (plC G a AD Y) H) (hD : va_D A (plC G a AD Y)) (hi : i < 7) (hj : j < 7) (hk : ∀ q : Nat, q < H.size → ¬ wA (stC G (AD i) (Y i) ++ stC G (AD j) (Y j)) q → H1[q]? = H[q]?) (hP1 : va_P G.1 vwCl (stC G (AD i) X ++ stC G (AD j) (Y j)) H1) : va_P G.1 vwCl (plC G a AD (va_up Y i X)) H1 := by
  have h1 : va_P G.1 vwCl (stC G (AD i) X) H1 := va_P.all (fun q hq => hP1.mem (List.mem_append_left _ hq))
  have h2 : va_P G.1 vwCl (stC G (AD j) (Y j)) H1 := va_P.all (fun q hq => hP1.mem (List.mem_append_right _ hq))
  refine va_P.all (fun q hq => ?_)
  have keep : q ∈ plC G a AD Y → ¬ wA (stC G (AD i) (Y i)) q.1 → ¬ wA (stC G (AD j) (Y j)) q.1 → va_at G.1 vwCl q H1 := fun z1 z2 z3 => (hP.mem z1).kept (hk q.1 (hP.mem z1).lt (fun z => by
    unfold wA at z
    rw [List.map_append] at z
    exact (List.mem_append.mp z).elim z2 z3))
  unfold plC at hq
  rcases List.mem_append.mp hq with h | h
  · rw [plH_up hi] at h
    exact keep (List.mem_append_left _ h) (fun z => pl_disH hD hi q.1 (List.mem_map.mpr ⟨q, h, rfl⟩) q.1 z rfl) (fun z => pl_disH hD hj q.1 (List.mem_map.mpr ⟨q, h, rfl⟩) q.1 z rfl)
  · obtain ⟨t, ht, h⟩ := plT_of h
    by_cases hti : t = i
    · subst hti
      rw [va_up_self] at h
      exact h1.mem h
    · rw [va_up_ne _ _ hti] at h
      by_cases htj : t = j
      · subst htj
        exact h2.mem h
      · exact keep (pl_mem ht h) (fun z => pl_dis hD ht hi hti q.1 (List.mem_map.mpr ⟨q, h, rfl⟩) q.1 z rfl) (fun z => pl_dis hD ht hj htj q.1 (List.mem_map.mpr ⟨q, h, rfl⟩) q.1 z rfl)
end PL
/-! what the text and the history are -/
def yt (Y : Nat → XS) : Nat := (Y 7 5 2).toNatClampNeg
def okT (Y : Nat → XS) : Prop := Y 7 5 2 = nI (yt Y) ∧ yt Y ≤ 60 ∧ ∀ j, j < 60 → chOk (Y 7 0 j)
theorem okT.n {Y : Nat → XS} (h : okT Y) : Y 7 5 2 = nI (yt Y) := h.1
theorem okT.n60 {Y : Nat → XS} (h : okT Y) : yt Y ≤ 60 := h.2.1
theorem okT.c {Y : Nat → XS} (h : okT Y) {j : Nat} (hj : j < 60) : chOk (Y 7 0 j) := h.2.2 j hj
def xAl (c : Int32) (signs : Nat) (bl : Bool) : Bool := if c = 59 then bl else if 16 ≤ signs then false else xL c || (bl && xMk c)
/-- the state of the fault's search behind i characters: signs of this name, whether behind a letter -/
def xSc (Y : Nat → XS) : Nat → Nat × Bool
  | 0 => (0, false)
  | i + 1 => (if Y 7 0 i = 59 then 0 else (xSc Y i).1 + 1, xL (Y 7 0 i))
def xBad (Y : Nat → XS) (i : Nat) : Bool := !(xAl (Y 7 0 i) (xSc Y i).1 (xSc Y i).2)
def xFl (Y : Nat → XS) : Nat := fstN (xBad Y) (yt Y)
def xFault (Y : Nat → XS) : Int32 := if xFl Y < yt Y then nI (xFl Y) else if (xSc Y (yt Y)).2 = true then (-1) else nI (yt Y)
def xNmN (Y : Nat → XS) : Nat → Nat
  | 0 => 1
  | i + 1 => if Y 7 0 i = 59 then xNmN Y i + 1 else xNmN Y i
theorem xNmN_le (Y : Nat → XS) : ∀ i, xNmN Y i ≤ i + 1
  | 0 => Nat.le_refl _
  | i + 1 => by
    have := xNmN_le Y i
    unfold xNmN
    split <;> omega
theorem xSc_le (Y : Nat → XS) : ∀ i, (xSc Y i).1 ≤ i
  | 0 => Nat.le_refl _
  | i + 1 => by
    have := xSc_le Y i
    unfold xSc
    split <;> simp <;> omega

/-! what the plate's asked numbers are, of the State X that is now -/
def isPl (w h : Int32) : Bool := !(decide (w < 300)) && (!(decide (6000 < w)) && (!(decide (h < 100)) && !(decide (3000 < h))))
def yNbs (X : XS) (k : Nat) (w z : Int32) : Int32 := if w < 5 ∨ ¬ w ≤ 9 then (-1002) else if w = 7 then b2i (xFits X k z) else if z = 0 then (-1005) else if w = 5 then xBeg X k z else if w = 6 then xRb X k z else if w = 8 then xU X k * z else xMid X k z
def yNameK (X : XS) (k : Nat) (w : Int32) : Int32 := if w = 0 then nI (xl X k) else if w = 1 then xU X k else if w = 2 then b2i (xEb X k) else if w = 3 then xRow X k else if w = 4 then xCo X k else if w = 10 then xInk X k else yNbs X k w (xSize X)
def yName (X : XS) (seat w : Int32) : Int32 := if xTk (xn X) seat = false then (-1001) else yNameK X seat.toNatClampNeg w
def ySb (X : XS) (k j : Nat) (z : Int32) : Int32 := if z = 0 then (-1005) else xBeg X k z + xUb X k j * z
def xIn (X : XS) (seat index : Int32) : Bool := xTk (xn X) seat && (!(decide (index < 0)) && !(decide (nI (xl X seat.toNatClampNeg) ≤ index)))
theorem xIn_of {X : XS} (hok : okX X) {seat index : Int32} (h : xIn X seat index = true) : ∃ k j, k < xn X ∧ j < xl X k ∧ seat = nI k ∧ index = nI j := by
  have hn := hok.n20
  unfold xIn at h
  simp only [Bool.and_eq_true, Bool.not_eq_true', decide_eq_false_iff_not] at h
  obtain ⟨h1, h2, h3⟩ := h
  obtain ⟨k, hk, rfl⟩ := xTk_of (by omega) h1
  obtain ⟨j, hj, rfl⟩ := nI_of h2
  have hl := hok.l16 (show k < 20 by omega)
  rw [nI_clamp (show k < 2147483648 by omega), nI_leI (by omega) hj] at h3
  exact ⟨k, j, hk, by omega, rfl, rfl⟩
theorem xIn_in {X : XS} (hok : okX X) {k j : Nat} (hk : k < xn X) (hj : j < xl X k) : xIn X (nI k) (nI j) = true := by
  have hn := hok.n20
  have hl := hok.l16 (show k < 20 by omega)
  unfold xIn
  rw [nI_clamp (show k < 2147483648 by omega), xTk_in hn hk]
  simp only [Bool.true_and, Bool.and_eq_true, Bool.not_eq_true', decide_eq_false_iff_not]
  exact ⟨nI_pos (by omega), fun q => by rw [nI_leI (by omega) (by omega)] at q; omega⟩
def ySignK (X : XS) (k j : Nat) (w : Int32) : Int32 := if w = 0 then xSg X k j else if w = 1 then xUb X k j else if w = 2 then xW (xSg X k j) else if w = 3 then (if j = xl X k - 1 then (-1005) else xSp X k j) else if w = 4 then (if j = xl X k - 1 then (-1005) else xMs X k j) else if w = 5 then ySb X k j (xSize X) else (-1002)
def ySign (X : XS) (seat index w : Int32) : Int32 := if xIn X seat index = false then (-1001) else ySignK X seat.toNatClampNeg index.toNatClampNeg w
def yHk (X : XS) (z x y : Int32) (k : Nat) : Bool := !(decide (y < xRb X k z)) && (!(decide (xRb X k z + 12 * z ≤ y)) && !(decide (xIx X k x z < 0)))
def yAt (X : XS) (x y : Int32) : Int32 := if x < 0 ∨ y < 0 then (-1002) else if xSize X = 0 then (-1005) else if fstN (yHk X (xSize X) x y) (xn X) < xn X then 100 * nI (fstN (yHk X (xSize X) x y) (xn X)) + xIx X (fstN (yHk X (xSize X) x y) (xn X)) x (xSize X) else (-1005)
def ySizeBy (X : XS) (w h : Int32) : Int32 := if isPl w h = true then xGr X w h (nI (xn X)) (xMost X (-1)) else (-1002)
def ySizeWo (X : XS) (seat : Int32) : Int32 := if xTk (xn X) seat = false then (-1001) else xGr X (X 5 2) (X 5 3) (nI (xn X) - 1) (xMost X seat)
def yLeastK (X : XS) (z : Int32) : Int32 := 2 * X 5 4 + X 5 5 * xMost X (-1) * z
def yLeast (X : XS) (z : Int32) : Int32 := if z < 1 ∨ ¬ z ≤ 40 then (-1002) else if xn X = 0 then (-1005) else imax 300 (yLeastK X z)
def yLq (X : XS) (i : Nat) : Bool := decide (xU X i = xMost X (-1))
def yLong (X : XS) : Int32 := if fstN (yLq X) (xn X) < xn X then nI (fstN (yLq X) (xn X)) else (-1005)
def yPair (X : XS) (place w : Int32) : Int32 := if place < 0 ∨ w < 0 ∨ ¬ w ≤ 2 then (-1002) else if xIp (xp X) place = false then (-1005) else if w = 0 then X 2 place.toNatClampNeg else if w = 1 then X 3 place.toNatClampNeg else X 4 place.toNatClampNeg
def yCount (Y : Nat → XS) (w : Int32) : Int32 := if w = 0 then Y 5 5 2 else if w = 1 then Y 5 5 3 else if w = 2 then Y 5 5 4 else if w = 3 then Y 5 5 5 else if w = 4 then Y 5 5 0 else if w = 5 then bitc (Y 5 5 6) else if w = 6 then xRows (Y 5) (Y 5 5 0) else if w = 7 then Y 5 5 8 else if w = 8 then Y 5 5 9 else if w = 9 then Y 5 5 1 else if w = 10 then Y 7 5 1 else if w = 11 then Y 7 5 2 else (-1002)
