/-! ===== the law, case by case: laid by program (wip/whole/layl.py) ===== -/
set_option maxHeartbeats 4000000 in
set_option maxRecDepth 100000 in
theorem law_c9 {Zz : State → Prop} {p : Program} {l : Launch} {e : Env} {s : State} {m : MethodId} {below : List Frame} {meth : Method} {c : Code} {G : GG} {a : Nat → Nat} {AD : Nat → Nat → Nat} {ad : Nat → Nat} {b L i : Nat} {xs : Nat → Int32} (F : LF p s m c G a AD ad b L xs) (hL : L ≤ 2048) (hi : i + 4 ≤ L) (k : LQ Zz p l e s m below meth c G a AD ad b i 763) : LQ Zz p l e s m below meth c G a AD ad b i 381 := by
  obtain ⟨cx, hK, hN, hX, hbl, hDx0, hDm0, hdis⟩ := F
  intro Y M H locs ls h hPx hPm hS hl
  have hDx : va_D (fun q => s.heap.size ≤ q) (plC G a AD Y) := hDx0.fst rfl
  have hDm : va_D (fun q => s.heap.size ≤ q) (mdC G ad M) := hDm0.fst rfl
  have hdis1 : ∀ q, wA (mdC G ad M) q → ¬ wA (plC G a AD Y) q := fun q h1 h2 => hdis q (pl_wA0 h2) h1
  refine lv_aload_n cx.1 cx.2.1 dL_law_381 rfl (lv_at hl 2 rfl) ?_
  refine lv_aload_n cx.1 cx.2.1 dL_law_382 rfl (lv_at hl 3 rfl) ?_
  refine lv_iload_n cx.1 cx.2.1 dL_law_383 rfl (lv_at hl 0 rfl) ?_
  refine lv_iconst (v := nI 1) cx.1 cx.2.1 dL_law_384 (by decide) ?_
  refine nv_iadd cx dL_law_385 ?_
  refine nv_sld (L := L) cx hX hbl hS (show i + 1 < L by omega) hL dL_law_386 ?_
  refine WR.callV (As := [.int (xs (i + 1))]) (rest := []) cx (c_X6_engrave l G a AD Y (xs (i + 1)) h.h.1 h.x) gL_law_X6_engrave rfl hd_X6_engrave ⟨Nat.le_of_ble_eq_true rfl, Nat.le_of_ble_eq_true rfl⟩ (va_recv hK hPx (ci := 5) (q0 := 0) rfl rfl) hK hN hPx hDx hS (fun _ hq => wA_in hDx hq) rfl hl.1 rfl (Nat.le_of_ble_eq_true rfl) dL_law_387 ⟨Nat.le_of_ble_eq_true rfl, Nat.le_of_ble_eq_true rfl⟩ (fun H locs hP1 hk1 hS => ?_)
  have hPm := kept2 hPm hdis1 hk1
  have hPx : va_P G.1 vwCl (plC G a AD (yEng Y (xs (i + 1))).2) H := hP1
  refine lv_aload_n cx.1 cx.2.1 dL_law_390 rfl (lv_at hl 1 rfl) ?_
  refine lv_aload_n cx.1 cx.2.1 dL_law_391 rfl (lv_at hl 3 rfl) ?_
  refine lv_iload_n cx.1 cx.2.1 dL_law_392 rfl (lv_at hl 0 rfl) ?_
  refine lv_iconst (v := nI 1) cx.1 cx.2.1 dL_law_393 (by decide) ?_
  refine nv_iadd cx dL_law_394 ?_
  refine nv_sld (L := L) cx hX hbl hS (show i + 1 < L by omega) hL dL_law_395 ?_
  refine WR.callV (As := [.int (xs (i + 1))]) (rest := [.int _]) cx (c_X7_engrave l G ad M (xs (i + 1)) h.h.K h.r.m) gL_law_X7_engrave rfl hd_X7_engrave ⟨Nat.le_of_ble_eq_true rfl, Nat.le_of_ble_eq_true rfl⟩ (va_recv hK hPm (ci := 6) (q0 := 0) rfl rfl) hK hN hPm hDm hS (fun _ hq => wA_in hDm hq) rfl hl.1 rfl (Nat.le_of_ble_eq_true rfl) dL_law_396 ⟨Nat.le_of_ble_eq_true rfl, Nat.le_of_ble_eq_true rfl⟩ (fun H locs hP1 hk1 hS => ?_)
  have hPx := kept2 hPx (fun q h1 h2 => hdis1 q h2 (pl_wA0 h1)) hk1
  have hPm : va_P G.1 vwCl (mdC G ad (mEng M (xs (i + 1))).2) H := hP1
  have sm : Sm (yEng Y (xs (i + 1))) (mEng M (xs (i + 1))) := aEng h _
  refine lv_icmp_eq (tgt := 763) cx.1 cx.2.1 dL_law_399 (by decide) (fun _ => ?_) (fun q => absurd sm.1 q)
  exact k _ _ _ _ _ sm.2 hPx hPm hS hl
set_option maxHeartbeats 4000000 in
set_option maxRecDepth 100000 in
theorem law_c10 {Zz : State → Prop} {p : Program} {l : Launch} {e : Env} {s : State} {m : MethodId} {below : List Frame} {meth : Method} {c : Code} {G : GG} {a : Nat → Nat} {AD : Nat → Nat → Nat} {ad : Nat → Nat} {b L i : Nat} {xs : Nat → Int32} (F : LF p s m c G a AD ad b L xs) (hL : L ≤ 2048) (hi : i + 4 ≤ L) (k : LQ Zz p l e s m below meth c G a AD ad b i 763) : LQ Zz p l e s m below meth c G a AD ad b i 404 := by
  obtain ⟨cx, hK, hN, hX, hbl, hDx0, hDm0, hdis⟩ := F
  intro Y M H locs ls h hPx hPm hS hl
  have hDx : va_D (fun q => s.heap.size ≤ q) (plC G a AD Y) := hDx0.fst rfl
  have hDm : va_D (fun q => s.heap.size ≤ q) (mdC G ad M) := hDm0.fst rfl
  have hdis1 : ∀ q, wA (mdC G ad M) q → ¬ wA (plC G a AD Y) q := fun q h1 h2 => hdis q (pl_wA0 h2) h1
  refine lv_aload_n cx.1 cx.2.1 dL_law_404 rfl (lv_at hl 2 rfl) ?_
  refine WR.callV (As := []) (rest := []) cx (c_X6_engraveAll l G a AD Y  h.h.1 h.x) gL_law_X6_engraveAll rfl hd_X6_engraveAll ⟨Nat.le_of_ble_eq_true rfl, Nat.le_of_ble_eq_true rfl⟩ (va_recv hK hPx (ci := 5) (q0 := 0) rfl rfl) hK hN hPx hDx hS (fun _ hq => wA_in hDx hq) rfl hl.1 rfl (Nat.le_of_ble_eq_true rfl) dL_law_405 ⟨Nat.le_of_ble_eq_true rfl, Nat.le_of_ble_eq_true rfl⟩ (fun H locs hP1 hk1 hS => ?_)
  have hPm := kept2 hPm hdis1 hk1
  have hPx : va_P G.1 vwCl (plC G a AD (yEngA Y).2) H := hP1
  refine lv_aload_n cx.1 cx.2.1 dL_law_408 rfl (lv_at hl 1 rfl) ?_
  refine WR.callV (As := []) (rest := [.int _]) cx (c_X7_engraveAll l G ad M  h.h.K h.r.m) gL_law_X7_engraveAll rfl hd_X7_engraveAll ⟨Nat.le_of_ble_eq_true rfl, Nat.le_of_ble_eq_true rfl⟩ (va_recv hK hPm (ci := 6) (q0 := 0) rfl rfl) hK hN hPm hDm hS (fun _ hq => wA_in hDm hq) rfl hl.1 rfl (Nat.le_of_ble_eq_true rfl) dL_law_409 ⟨Nat.le_of_ble_eq_true rfl, Nat.le_of_ble_eq_true rfl⟩ (fun H locs hP1 hk1 hS => ?_)
  have hPx := kept2 hPx (fun q h1 h2 => hdis1 q h2 (pl_wA0 h1)) hk1
  have hPm : va_P G.1 vwCl (mdC G ad (mEngA M).2) H := hP1
  have sm : Sm (yEngA Y) (mEngA M) := aEngA h
  refine lv_icmp_eq (tgt := 763) cx.1 cx.2.1 dL_law_412 (by decide) (fun _ => ?_) (fun q => absurd sm.1 q)
  exact k _ _ _ _ _ sm.2 hPx hPm hS hl
set_option maxHeartbeats 4000000 in
set_option maxRecDepth 100000 in
theorem law_c11 {Zz : State → Prop} {p : Program} {l : Launch} {e : Env} {s : State} {m : MethodId} {below : List Frame} {meth : Method} {c : Code} {G : GG} {a : Nat → Nat} {AD : Nat → Nat → Nat} {ad : Nat → Nat} {b L i : Nat} {xs : Nat → Int32} (F : LF p s m c G a AD ad b L xs) (hL : L ≤ 2048) (hi : i + 4 ≤ L) (k : LQ Zz p l e s m below meth c G a AD ad b i 763) : LQ Zz p l e s m below meth c G a AD ad b i 417 := by
  obtain ⟨cx, hK, hN, hX, hbl, hDx0, hDm0, hdis⟩ := F
  intro Y M H locs ls h hPx hPm hS hl
  have hDx : va_D (fun q => s.heap.size ≤ q) (plC G a AD Y) := hDx0.fst rfl
  have hDm : va_D (fun q => s.heap.size ≤ q) (mdC G ad M) := hDm0.fst rfl
  have hdis1 : ∀ q, wA (mdC G ad M) q → ¬ wA (plC G a AD Y) q := fun q h1 h2 => hdis q (pl_wA0 h2) h1
  refine lv_aload_n cx.1 cx.2.1 dL_law_417 rfl (lv_at hl 2 rfl) ?_
  refine WR.callV (As := []) (rest := []) cx (c_X6_undo l G a AD Y  h.h.1 h.x) gL_law_X6_undo rfl hd_X6_undo ⟨Nat.le_of_ble_eq_true rfl, Nat.le_of_ble_eq_true rfl⟩ (va_recv hK hPx (ci := 5) (q0 := 0) rfl rfl) hK hN hPx hDx hS (fun _ hq => wA_in hDx hq) rfl hl.1 rfl (Nat.le_of_ble_eq_true rfl) dL_law_418 ⟨Nat.le_of_ble_eq_true rfl, Nat.le_of_ble_eq_true rfl⟩ (fun H locs hP1 hk1 hS => ?_)
  have hPm := kept2 hPm hdis1 hk1
  have hPx : va_P G.1 vwCl (plC G a AD (yUndo Y).2) H := hP1
  refine lv_aload_n cx.1 cx.2.1 dL_law_421 rfl (lv_at hl 1 rfl) ?_
  refine WR.callV (As := []) (rest := [.int _]) cx (c_X7_undo l G ad M  h.h.K) gL_law_X7_undo rfl hd_X7_undo ⟨Nat.le_of_ble_eq_true rfl, Nat.le_of_ble_eq_true rfl⟩ (va_recv hK hPm (ci := 6) (q0 := 0) rfl rfl) hK hN hPm hDm hS (fun _ hq => wA_in hDm hq) rfl hl.1 rfl (Nat.le_of_ble_eq_true rfl) dL_law_422 ⟨Nat.le_of_ble_eq_true rfl, Nat.le_of_ble_eq_true rfl⟩ (fun H locs hP1 hk1 hS => ?_)
  have hPx := kept2 hPx (fun q h1 h2 => hdis1 q h2 (pl_wA0 h1)) hk1
  have hPm : va_P G.1 vwCl (mdC G ad (mUndo M).2) H := hP1
  have sm : Sm (yUndo Y) (mUndo M) := aUndo h
  refine lv_icmp_eq (tgt := 763) cx.1 cx.2.1 dL_law_425 (by decide) (fun _ => ?_) (fun q => absurd sm.1 q)
  exact k _ _ _ _ _ sm.2 hPx hPm hS hl
set_option maxHeartbeats 4000000 in
set_option maxRecDepth 100000 in
theorem law_c12 {Zz : State → Prop} {p : Program} {l : Launch} {e : Env} {s : State} {m : MethodId} {below : List Frame} {meth : Method} {c : Code} {G : GG} {a : Nat → Nat} {AD : Nat → Nat → Nat} {ad : Nat → Nat} {b L i : Nat} {xs : Nat → Int32} (F : LF p s m c G a AD ad b L xs) (hL : L ≤ 2048) (hi : i + 4 ≤ L) (k : LQ Zz p l e s m below meth c G a AD ad b i 763) : LQ Zz p l e s m below meth c G a AD ad b i 430 := by
  obtain ⟨cx, hK, hN, hX, hbl, hDx0, hDm0, hdis⟩ := F
  intro Y M H locs ls h hPx hPm hS hl
  have hDx : va_D (fun q => s.heap.size ≤ q) (plC G a AD Y) := hDx0.fst rfl
  have hDm : va_D (fun q => s.heap.size ≤ q) (mdC G ad M) := hDm0.fst rfl
  have hdis1 : ∀ q, wA (mdC G ad M) q → ¬ wA (plC G a AD Y) q := fun q h1 h2 => hdis q (pl_wA0 h2) h1
  refine lv_aload_n cx.1 cx.2.1 dL_law_430 rfl (lv_at hl 2 rfl) ?_
  refine WR.callV (As := []) (rest := []) cx (c_X6_keep l G a AD Y  h.h.1 h.x) gL_law_X6_keep rfl hd_X6_keep ⟨Nat.le_of_ble_eq_true rfl, Nat.le_of_ble_eq_true rfl⟩ (va_recv hK hPx (ci := 5) (q0 := 0) rfl rfl) hK hN hPx hDx hS (fun _ hq => wA_in hDx hq) rfl hl.1 rfl (Nat.le_of_ble_eq_true rfl) dL_law_431 ⟨Nat.le_of_ble_eq_true rfl, Nat.le_of_ble_eq_true rfl⟩ (fun H locs hP1 hk1 hS => ?_)
  have hPm := kept2 hPm hdis1 hk1
  have hPx : va_P G.1 vwCl (plC G a AD (yKeep Y).2) H := hP1
  refine lv_aload_n cx.1 cx.2.1 dL_law_434 rfl (lv_at hl 1 rfl) ?_
  refine WR.callV (As := []) (rest := [.int _]) cx (c_X7_keep l G ad M  ) gL_law_X7_keep rfl hd_X7_keep ⟨Nat.le_of_ble_eq_true rfl, Nat.le_of_ble_eq_true rfl⟩ (va_recv hK hPm (ci := 6) (q0 := 0) rfl rfl) hK hN hPm hDm hS (fun _ hq => wA_in hDm hq) rfl hl.1 rfl (Nat.le_of_ble_eq_true rfl) dL_law_435 ⟨Nat.le_of_ble_eq_true rfl, Nat.le_of_ble_eq_true rfl⟩ (fun H locs hP1 hk1 hS => ?_)
  have hPx := kept2 hPx (fun q h1 h2 => hdis1 q h2 (pl_wA0 h1)) hk1
  have hPm : va_P G.1 vwCl (mdC G ad (mKeep M).2) H := hP1
  have sm : Sm (yKeep Y) (mKeep M) := aKeep h
  refine lv_icmp_eq (tgt := 763) cx.1 cx.2.1 dL_law_438 (by decide) (fun _ => ?_) (fun q => absurd sm.1 q)
  exact k _ _ _ _ _ sm.2 hPx hPm hS hl
set_option maxHeartbeats 4000000 in
set_option maxRecDepth 100000 in
theorem law_c13 {Zz : State → Prop} {p : Program} {l : Launch} {e : Env} {s : State} {m : MethodId} {below : List Frame} {meth : Method} {c : Code} {G : GG} {a : Nat → Nat} {AD : Nat → Nat → Nat} {ad : Nat → Nat} {b L i : Nat} {xs : Nat → Int32} (F : LF p s m c G a AD ad b L xs) (hL : L ≤ 2048) (hi : i + 4 ≤ L) (k : LQ Zz p l e s m below meth c G a AD ad b i 763) : LQ Zz p l e s m below meth c G a AD ad b i 443 := by
  obtain ⟨cx, hK, hN, hX, hbl, hDx0, hDm0, hdis⟩ := F
  intro Y M H locs ls h hPx hPm hS hl
  have hDx : va_D (fun q => s.heap.size ≤ q) (plC G a AD Y) := hDx0.fst rfl
  have hDm : va_D (fun q => s.heap.size ≤ q) (mdC G ad M) := hDm0.fst rfl
  have hdis1 : ∀ q, wA (mdC G ad M) q → ¬ wA (plC G a AD Y) q := fun q h1 h2 => hdis q (pl_wA0 h2) h1
  refine lv_aload_n cx.1 cx.2.1 dL_law_443 rfl (lv_at hl 2 rfl) ?_
  refine WR.callV (As := []) (rest := []) cx (c_X6_restore l G a AD Y  h.h.1 h.x) gL_law_X6_restore rfl hd_X6_restore ⟨Nat.le_of_ble_eq_true rfl, Nat.le_of_ble_eq_true rfl⟩ (va_recv hK hPx (ci := 5) (q0 := 0) rfl rfl) hK hN hPx hDx hS (fun _ hq => wA_in hDx hq) rfl hl.1 rfl (Nat.le_of_ble_eq_true rfl) dL_law_444 ⟨Nat.le_of_ble_eq_true rfl, Nat.le_of_ble_eq_true rfl⟩ (fun H locs hP1 hk1 hS => ?_)
  have hPm := kept2 hPm hdis1 hk1
  have hPx : va_P G.1 vwCl (plC G a AD (yRest Y).2) H := hP1
  refine lv_aload_n cx.1 cx.2.1 dL_law_447 rfl (lv_at hl 1 rfl) ?_
  refine WR.callV (As := []) (rest := [.int _]) cx (c_X7_restore l G ad M  h.h.K) gL_law_X7_restore rfl hd_X7_restore ⟨Nat.le_of_ble_eq_true rfl, Nat.le_of_ble_eq_true rfl⟩ (va_recv hK hPm (ci := 6) (q0 := 0) rfl rfl) hK hN hPm hDm hS (fun _ hq => wA_in hDm hq) rfl hl.1 rfl (Nat.le_of_ble_eq_true rfl) dL_law_448 ⟨Nat.le_of_ble_eq_true rfl, Nat.le_of_ble_eq_true rfl⟩ (fun H locs hP1 hk1 hS => ?_)
  have hPx := kept2 hPx (fun q h1 h2 => hdis1 q h2 (pl_wA0 h1)) hk1
  have hPm : va_P G.1 vwCl (mdC G ad (mRest M).2) H := hP1
  have sm : Sm (yRest Y) (mRest M) := aRest h
  refine lv_icmp_eq (tgt := 763) cx.1 cx.2.1 dL_law_451 (by decide) (fun _ => ?_) (fun q => absurd sm.1 q)
  exact k _ _ _ _ _ sm.2 hPx hPm hS hl
set_option maxHeartbeats 4000000 in
set_option maxRecDepth 100000 in
theorem law_c14 {Zz : State → Prop} {p : Program} {l : Launch} {e : Env} {s : State} {m : MethodId} {below : List Frame} {meth : Method} {c : Code} {G : GG} {a : Nat → Nat} {AD : Nat → Nat → Nat} {ad : Nat → Nat} {b L i : Nat} {xs : Nat → Int32} (F : LF p s m c G a AD ad b L xs) (hL : L ≤ 2048) (hi : i + 4 ≤ L) (k : LQ Zz p l e s m below meth c G a AD ad b i 763) : LQ Zz p l e s m below meth c G a AD ad b i 456 := by
  obtain ⟨cx, hK, hN, hX, hbl, hDx0, hDm0, hdis⟩ := F
  intro Y M H locs ls h hPx hPm hS hl
  have hDx : va_D (fun q => s.heap.size ≤ q) (plC G a AD Y) := hDx0.fst rfl
  have hDm : va_D (fun q => s.heap.size ≤ q) (mdC G ad M) := hDm0.fst rfl
  have hdis1 : ∀ q, wA (mdC G ad M) q → ¬ wA (plC G a AD Y) q := fun q h1 h2 => hdis q (pl_wA0 h2) h1
  refine lv_aload_n cx.1 cx.2.1 dL_law_456 rfl (lv_at hl 2 rfl) ?_
  refine lv_aload_n cx.1 cx.2.1 dL_law_457 rfl (lv_at hl 3 rfl) ?_
  refine lv_iload_n cx.1 cx.2.1 dL_law_458 rfl (lv_at hl 0 rfl) ?_
  refine lv_iconst (v := nI 1) cx.1 cx.2.1 dL_law_459 (by decide) ?_
  refine nv_iadd cx dL_law_460 ?_
  refine nv_sld (L := L) cx hX hbl hS (show i + 1 < L by omega) hL dL_law_461 ?_
  refine lv_aload_n cx.1 cx.2.1 dL_law_462 rfl (lv_at hl 3 rfl) ?_
  refine lv_iload_n cx.1 cx.2.1 dL_law_463 rfl (lv_at hl 0 rfl) ?_
  refine lv_iconst (v := nI 2) cx.1 cx.2.1 dL_law_464 (by decide) ?_
  refine nv_iadd cx dL_law_465 ?_
  refine nv_sld (L := L) cx hX hbl hS (show i + 2 < L by omega) hL dL_law_466 ?_
  refine RO.callV (As := [.int (xs (i + 1)), .int (xs (i + 2))]) (rest := []) cx (c_X6_name l G a AD Y (xs (i + 1)) (xs (i + 2)) h.r.x) gL_law_X6_name rfl hd_X6_name ⟨Nat.le_of_ble_eq_true rfl, Nat.le_of_ble_eq_true rfl⟩ (va_recv hK hPx (ci := 5) (q0 := 0) rfl rfl) hK hN hPx rfl hl.1 rfl (Nat.le_of_ble_eq_true rfl) dL_law_467 ⟨Nat.le_of_ble_eq_true rfl, Nat.le_of_ble_eq_true rfl⟩ ?_
  refine lv_aload_n cx.1 cx.2.1 dL_law_470 rfl (lv_at hl 1 rfl) ?_
  refine lv_aload_n cx.1 cx.2.1 dL_law_471 rfl (lv_at hl 3 rfl) ?_
  refine lv_iload_n cx.1 cx.2.1 dL_law_472 rfl (lv_at hl 0 rfl) ?_
  refine lv_iconst (v := nI 1) cx.1 cx.2.1 dL_law_473 (by decide) ?_
  refine nv_iadd cx dL_law_474 ?_
  refine nv_sld (L := L) cx hX hbl hS (show i + 1 < L by omega) hL dL_law_475 ?_
  refine lv_aload_n cx.1 cx.2.1 dL_law_476 rfl (lv_at hl 3 rfl) ?_
  refine lv_iload_n cx.1 cx.2.1 dL_law_477 rfl (lv_at hl 0 rfl) ?_
  refine lv_iconst (v := nI 2) cx.1 cx.2.1 dL_law_478 (by decide) ?_
  refine nv_iadd cx dL_law_479 ?_
  refine nv_sld (L := L) cx hX hbl hS (show i + 2 < L by omega) hL dL_law_480 ?_
  refine RO.callV (As := [.int (xs (i + 1)), .int (xs (i + 2))]) (rest := [.int _]) cx (c_X7_name l G ad M (xs (i + 1)) (xs (i + 2)) h.r.m) gL_law_X7_name rfl hd_X7_name ⟨Nat.le_of_ble_eq_true rfl, Nat.le_of_ble_eq_true rfl⟩ (va_recv hK hPm (ci := 6) (q0 := 0) rfl rfl) hK hN hPm rfl hl.1 rfl (Nat.le_of_ble_eq_true rfl) dL_law_481 ⟨Nat.le_of_ble_eq_true rfl, Nat.le_of_ble_eq_true rfl⟩ ?_
  refine lv_icmp_eq (tgt := 763) cx.1 cx.2.1 dL_law_484 (by decide) (fun _ => ?_) (fun q => absurd (rName h.r _ _) q)
  exact k _ _ _ _ _ h hPx hPm hS hl
set_option maxHeartbeats 4000000 in
set_option maxRecDepth 100000 in
theorem law_c15 {Zz : State → Prop} {p : Program} {l : Launch} {e : Env} {s : State} {m : MethodId} {below : List Frame} {meth : Method} {c : Code} {G : GG} {a : Nat → Nat} {AD : Nat → Nat → Nat} {ad : Nat → Nat} {b L i : Nat} {xs : Nat → Int32} (F : LF p s m c G a AD ad b L xs) (hL : L ≤ 2048) (hi : i + 4 ≤ L) (k : LQ Zz p l e s m below meth c G a AD ad b i 763) : LQ Zz p l e s m below meth c G a AD ad b i 489 := by
  obtain ⟨cx, hK, hN, hX, hbl, hDx0, hDm0, hdis⟩ := F
  intro Y M H locs ls h hPx hPm hS hl
  have hDx : va_D (fun q => s.heap.size ≤ q) (plC G a AD Y) := hDx0.fst rfl
  have hDm : va_D (fun q => s.heap.size ≤ q) (mdC G ad M) := hDm0.fst rfl
  have hdis1 : ∀ q, wA (mdC G ad M) q → ¬ wA (plC G a AD Y) q := fun q h1 h2 => hdis q (pl_wA0 h2) h1
  refine lv_aload_n cx.1 cx.2.1 dL_law_489 rfl (lv_at hl 2 rfl) ?_
  refine lv_aload_n cx.1 cx.2.1 dL_law_490 rfl (lv_at hl 3 rfl) ?_
  refine lv_iload_n cx.1 cx.2.1 dL_law_491 rfl (lv_at hl 0 rfl) ?_
  refine lv_iconst (v := nI 1) cx.1 cx.2.1 dL_law_492 (by decide) ?_
  refine nv_iadd cx dL_law_493 ?_
  refine nv_sld (L := L) cx hX hbl hS (show i + 1 < L by omega) hL dL_law_494 ?_
  refine lv_aload_n cx.1 cx.2.1 dL_law_495 rfl (lv_at hl 3 rfl) ?_
  refine lv_iload_n cx.1 cx.2.1 dL_law_496 rfl (lv_at hl 0 rfl) ?_
  refine lv_iconst (v := nI 2) cx.1 cx.2.1 dL_law_497 (by decide) ?_
  refine nv_iadd cx dL_law_498 ?_
  refine nv_sld (L := L) cx hX hbl hS (show i + 2 < L by omega) hL dL_law_499 ?_
  refine lv_aload_n cx.1 cx.2.1 dL_law_500 rfl (lv_at hl 3 rfl) ?_
  refine lv_iload_n cx.1 cx.2.1 dL_law_501 rfl (lv_at hl 0 rfl) ?_
  refine lv_iconst (v := nI 3) cx.1 cx.2.1 dL_law_502 (by decide) ?_
  refine nv_iadd cx dL_law_503 ?_
  refine nv_sld (L := L) cx hX hbl hS (show i + 3 < L by omega) hL dL_law_504 ?_
  refine RO.callV (As := [.int (xs (i + 1)), .int (xs (i + 2)), .int (xs (i + 3))]) (rest := []) cx (c_X6_sign l G a AD Y (xs (i + 1)) (xs (i + 2)) (xs (i + 3)) h.r.x) gL_law_X6_sign rfl hd_X6_sign ⟨Nat.le_of_ble_eq_true rfl, Nat.le_of_ble_eq_true rfl⟩ (va_recv hK hPx (ci := 5) (q0 := 0) rfl rfl) hK hN hPx rfl hl.1 rfl (Nat.le_of_ble_eq_true rfl) dL_law_505 ⟨Nat.le_of_ble_eq_true rfl, Nat.le_of_ble_eq_true rfl⟩ ?_
  refine lv_aload_n cx.1 cx.2.1 dL_law_508 rfl (lv_at hl 1 rfl) ?_
  refine lv_aload_n cx.1 cx.2.1 dL_law_509 rfl (lv_at hl 3 rfl) ?_
  refine lv_iload_n cx.1 cx.2.1 dL_law_510 rfl (lv_at hl 0 rfl) ?_
  refine lv_iconst (v := nI 1) cx.1 cx.2.1 dL_law_511 (by decide) ?_
  refine nv_iadd cx dL_law_512 ?_
  refine nv_sld (L := L) cx hX hbl hS (show i + 1 < L by omega) hL dL_law_513 ?_
  refine lv_aload_n cx.1 cx.2.1 dL_law_514 rfl (lv_at hl 3 rfl) ?_
  refine lv_iload_n cx.1 cx.2.1 dL_law_515 rfl (lv_at hl 0 rfl) ?_
  refine lv_iconst (v := nI 2) cx.1 cx.2.1 dL_law_516 (by decide) ?_
  refine nv_iadd cx dL_law_517 ?_
  refine nv_sld (L := L) cx hX hbl hS (show i + 2 < L by omega) hL dL_law_518 ?_
  refine lv_aload_n cx.1 cx.2.1 dL_law_519 rfl (lv_at hl 3 rfl) ?_
  refine lv_iload_n cx.1 cx.2.1 dL_law_520 rfl (lv_at hl 0 rfl) ?_
  refine lv_iconst (v := nI 3) cx.1 cx.2.1 dL_law_521 (by decide) ?_
  refine nv_iadd cx dL_law_522 ?_
  refine nv_sld (L := L) cx hX hbl hS (show i + 3 < L by omega) hL dL_law_523 ?_
  refine RO.callV (As := [.int (xs (i + 1)), .int (xs (i + 2)), .int (xs (i + 3))]) (rest := [.int _]) cx (c_X7_sign l G ad M (xs (i + 1)) (xs (i + 2)) (xs (i + 3)) h.r.m) gL_law_X7_sign rfl hd_X7_sign ⟨Nat.le_of_ble_eq_true rfl, Nat.le_of_ble_eq_true rfl⟩ (va_recv hK hPm (ci := 6) (q0 := 0) rfl rfl) hK hN hPm rfl hl.1 rfl (Nat.le_of_ble_eq_true rfl) dL_law_524 ⟨Nat.le_of_ble_eq_true rfl, Nat.le_of_ble_eq_true rfl⟩ ?_
  refine lv_icmp_eq (tgt := 763) cx.1 cx.2.1 dL_law_527 (by decide) (fun _ => ?_) (fun q => absurd (rSign h.r _ _ _) q)
  exact k _ _ _ _ _ h hPx hPm hS hl
set_option maxHeartbeats 4000000 in
set_option maxRecDepth 100000 in
theorem law_c16 {Zz : State → Prop} {p : Program} {l : Launch} {e : Env} {s : State} {m : MethodId} {below : List Frame} {meth : Method} {c : Code} {G : GG} {a : Nat → Nat} {AD : Nat → Nat → Nat} {ad : Nat → Nat} {b L i : Nat} {xs : Nat → Int32} (F : LF p s m c G a AD ad b L xs) (hL : L ≤ 2048) (hi : i + 4 ≤ L) (k : LQ Zz p l e s m below meth c G a AD ad b i 763) : LQ Zz p l e s m below meth c G a AD ad b i 532 := by
  obtain ⟨cx, hK, hN, hX, hbl, hDx0, hDm0, hdis⟩ := F
  intro Y M H locs ls h hPx hPm hS hl
  have hDx : va_D (fun q => s.heap.size ≤ q) (plC G a AD Y) := hDx0.fst rfl
  have hDm : va_D (fun q => s.heap.size ≤ q) (mdC G ad M) := hDm0.fst rfl
  have hdis1 : ∀ q, wA (mdC G ad M) q → ¬ wA (plC G a AD Y) q := fun q h1 h2 => hdis q (pl_wA0 h2) h1
  refine lv_aload_n cx.1 cx.2.1 dL_law_532 rfl (lv_at hl 2 rfl) ?_
  refine lv_aload_n cx.1 cx.2.1 dL_law_533 rfl (lv_at hl 3 rfl) ?_
  refine lv_iload_n cx.1 cx.2.1 dL_law_534 rfl (lv_at hl 0 rfl) ?_
  refine lv_iconst (v := nI 1) cx.1 cx.2.1 dL_law_535 (by decide) ?_
  refine nv_iadd cx dL_law_536 ?_
  refine nv_sld (L := L) cx hX hbl hS (show i + 1 < L by omega) hL dL_law_537 ?_
  refine lv_aload_n cx.1 cx.2.1 dL_law_538 rfl (lv_at hl 3 rfl) ?_
  refine lv_iload_n cx.1 cx.2.1 dL_law_539 rfl (lv_at hl 0 rfl) ?_
  refine lv_iconst (v := nI 2) cx.1 cx.2.1 dL_law_540 (by decide) ?_
  refine nv_iadd cx dL_law_541 ?_
  refine nv_sld (L := L) cx hX hbl hS (show i + 2 < L by omega) hL dL_law_542 ?_
  refine RO.callV (As := [.int (xs (i + 1)), .int (xs (i + 2))]) (rest := []) cx (c_X6_signAt l G a AD Y (xs (i + 1)) (xs (i + 2)) h.r.x) gL_law_X6_signAt rfl hd_X6_signAt ⟨Nat.le_of_ble_eq_true rfl, Nat.le_of_ble_eq_true rfl⟩ (va_recv hK hPx (ci := 5) (q0 := 0) rfl rfl) hK hN hPx rfl hl.1 rfl (Nat.le_of_ble_eq_true rfl) dL_law_543 ⟨Nat.le_of_ble_eq_true rfl, Nat.le_of_ble_eq_true rfl⟩ ?_
  refine lv_aload_n cx.1 cx.2.1 dL_law_546 rfl (lv_at hl 1 rfl) ?_
  refine lv_aload_n cx.1 cx.2.1 dL_law_547 rfl (lv_at hl 3 rfl) ?_
  refine lv_iload_n cx.1 cx.2.1 dL_law_548 rfl (lv_at hl 0 rfl) ?_
  refine lv_iconst (v := nI 1) cx.1 cx.2.1 dL_law_549 (by decide) ?_
  refine nv_iadd cx dL_law_550 ?_
  refine nv_sld (L := L) cx hX hbl hS (show i + 1 < L by omega) hL dL_law_551 ?_
  refine lv_aload_n cx.1 cx.2.1 dL_law_552 rfl (lv_at hl 3 rfl) ?_
  refine lv_iload_n cx.1 cx.2.1 dL_law_553 rfl (lv_at hl 0 rfl) ?_
  refine lv_iconst (v := nI 2) cx.1 cx.2.1 dL_law_554 (by decide) ?_
  refine nv_iadd cx dL_law_555 ?_
  refine nv_sld (L := L) cx hX hbl hS (show i + 2 < L by omega) hL dL_law_556 ?_
  refine RO.callV (As := [.int (xs (i + 1)), .int (xs (i + 2))]) (rest := [.int _]) cx (c_X7_signAt l G ad M (xs (i + 1)) (xs (i + 2)) h.r.m) gL_law_X7_signAt rfl hd_X7_signAt ⟨Nat.le_of_ble_eq_true rfl, Nat.le_of_ble_eq_true rfl⟩ (va_recv hK hPm (ci := 6) (q0 := 0) rfl rfl) hK hN hPm rfl hl.1 rfl (Nat.le_of_ble_eq_true rfl) dL_law_557 ⟨Nat.le_of_ble_eq_true rfl, Nat.le_of_ble_eq_true rfl⟩ ?_
  refine lv_icmp_eq (tgt := 763) cx.1 cx.2.1 dL_law_560 (by decide) (fun _ => ?_) (fun q => absurd (rAt h.r _ _) q)
  exact k _ _ _ _ _ h hPx hPm hS hl
