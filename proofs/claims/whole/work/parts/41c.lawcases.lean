/-! ===== the law, case by case: laid by program (wip/whole/layl.py) ===== -/
set_option maxHeartbeats 4000000 in
set_option maxRecDepth 100000 in
theorem law_c17 {Zz : State → Prop} {p : Program} {l : Launch} {e : Env} {s : State} {m : MethodId} {below : List Frame} {meth : Method} {c : Code} {G : GG} {a : Nat → Nat} {AD : Nat → Nat → Nat} {ad : Nat → Nat} {b L i : Nat} {xs : Nat → Int32} (F : LF p s m c G a AD ad b L xs) (hL : L ≤ 2048) (hi : i + 4 ≤ L) (k : LQ Zz p l e s m below meth c G a AD ad b i 763) : LQ Zz p l e s m below meth c G a AD ad b i 565 := by
  obtain ⟨cx, hK, hN, hX, hbl, hDx0, hDm0, hdis⟩ := F
  intro Y M H locs ls h hPx hPm hS hl
  have hDx : va_D (fun q => s.heap.size ≤ q) (plC G a AD Y) := hDx0.fst rfl
  have hDm : va_D (fun q => s.heap.size ≤ q) (mdC G ad M) := hDm0.fst rfl
  have hdis1 : ∀ q, wA (mdC G ad M) q → ¬ wA (plC G a AD Y) q := fun q h1 h2 => hdis q (pl_wA0 h2) h1
  refine lv_aload_n cx.1 cx.2.1 dL_law_565 rfl (lv_at hl 2 rfl) ?_
  refine RO.callV (As := []) (rest := []) cx (c_X6_size l G a AD Y  h.r.x) gL_law_X6_size rfl hd_X6_size ⟨Nat.le_of_ble_eq_true rfl, Nat.le_of_ble_eq_true rfl⟩ (va_recv hK hPx (ci := 5) (q0 := 0) rfl rfl) hK hN hPx rfl hl.1 rfl (Nat.le_of_ble_eq_true rfl) dL_law_566 ⟨Nat.le_of_ble_eq_true rfl, Nat.le_of_ble_eq_true rfl⟩ ?_
  refine lv_aload_n cx.1 cx.2.1 dL_law_569 rfl (lv_at hl 1 rfl) ?_
  refine RO.callV (As := []) (rest := [.int _]) cx (c_X7_size l G ad M  h.r.m) gL_law_X7_size rfl hd_X7_size ⟨Nat.le_of_ble_eq_true rfl, Nat.le_of_ble_eq_true rfl⟩ (va_recv hK hPm (ci := 6) (q0 := 0) rfl rfl) hK hN hPm rfl hl.1 rfl (Nat.le_of_ble_eq_true rfl) dL_law_570 ⟨Nat.le_of_ble_eq_true rfl, Nat.le_of_ble_eq_true rfl⟩ ?_
  refine lv_icmp_eq (tgt := 763) cx.1 cx.2.1 dL_law_573 (by decide) (fun _ => ?_) (fun q => absurd (rSize h.r) q)
  exact k _ _ _ _ _ h hPx hPm hS hl
set_option maxHeartbeats 4000000 in
set_option maxRecDepth 100000 in
theorem law_c18 {Zz : State → Prop} {p : Program} {l : Launch} {e : Env} {s : State} {m : MethodId} {below : List Frame} {meth : Method} {c : Code} {G : GG} {a : Nat → Nat} {AD : Nat → Nat → Nat} {ad : Nat → Nat} {b L i : Nat} {xs : Nat → Int32} (F : LF p s m c G a AD ad b L xs) (hL : L ≤ 2048) (hi : i + 4 ≤ L) (k : LQ Zz p l e s m below meth c G a AD ad b i 763) : LQ Zz p l e s m below meth c G a AD ad b i 578 := by
  obtain ⟨cx, hK, hN, hX, hbl, hDx0, hDm0, hdis⟩ := F
  intro Y M H locs ls h hPx hPm hS hl
  have hDx : va_D (fun q => s.heap.size ≤ q) (plC G a AD Y) := hDx0.fst rfl
  have hDm : va_D (fun q => s.heap.size ≤ q) (mdC G ad M) := hDm0.fst rfl
  have hdis1 : ∀ q, wA (mdC G ad M) q → ¬ wA (plC G a AD Y) q := fun q h1 h2 => hdis q (pl_wA0 h2) h1
  refine lv_aload_n cx.1 cx.2.1 dL_law_578 rfl (lv_at hl 2 rfl) ?_
  refine lv_aload_n cx.1 cx.2.1 dL_law_579 rfl (lv_at hl 3 rfl) ?_
  refine lv_iload_n cx.1 cx.2.1 dL_law_580 rfl (lv_at hl 0 rfl) ?_
  refine lv_iconst (v := nI 1) cx.1 cx.2.1 dL_law_581 (by decide) ?_
  refine nv_iadd cx dL_law_582 ?_
  refine nv_sld (L := L) cx hX hbl hS (show i + 1 < L by omega) hL dL_law_583 ?_
  refine lv_aload_n cx.1 cx.2.1 dL_law_584 rfl (lv_at hl 3 rfl) ?_
  refine lv_iload_n cx.1 cx.2.1 dL_law_585 rfl (lv_at hl 0 rfl) ?_
  refine lv_iconst (v := nI 2) cx.1 cx.2.1 dL_law_586 (by decide) ?_
  refine nv_iadd cx dL_law_587 ?_
  refine nv_sld (L := L) cx hX hbl hS (show i + 2 < L by omega) hL dL_law_588 ?_
  refine RO.callV (As := [.int (xs (i + 1)), .int (xs (i + 2))]) (rest := []) cx (c_X6_sizeBy l G a AD Y (xs (i + 1)) (xs (i + 2)) h.r.x) gL_law_X6_sizeBy rfl hd_X6_sizeBy ⟨Nat.le_of_ble_eq_true rfl, Nat.le_of_ble_eq_true rfl⟩ (va_recv hK hPx (ci := 5) (q0 := 0) rfl rfl) hK hN hPx rfl hl.1 rfl (Nat.le_of_ble_eq_true rfl) dL_law_589 ⟨Nat.le_of_ble_eq_true rfl, Nat.le_of_ble_eq_true rfl⟩ ?_
  refine lv_aload_n cx.1 cx.2.1 dL_law_592 rfl (lv_at hl 1 rfl) ?_
  refine lv_aload_n cx.1 cx.2.1 dL_law_593 rfl (lv_at hl 3 rfl) ?_
  refine lv_iload_n cx.1 cx.2.1 dL_law_594 rfl (lv_at hl 0 rfl) ?_
  refine lv_iconst (v := nI 1) cx.1 cx.2.1 dL_law_595 (by decide) ?_
  refine nv_iadd cx dL_law_596 ?_
  refine nv_sld (L := L) cx hX hbl hS (show i + 1 < L by omega) hL dL_law_597 ?_
  refine lv_aload_n cx.1 cx.2.1 dL_law_598 rfl (lv_at hl 3 rfl) ?_
  refine lv_iload_n cx.1 cx.2.1 dL_law_599 rfl (lv_at hl 0 rfl) ?_
  refine lv_iconst (v := nI 2) cx.1 cx.2.1 dL_law_600 (by decide) ?_
  refine nv_iadd cx dL_law_601 ?_
  refine nv_sld (L := L) cx hX hbl hS (show i + 2 < L by omega) hL dL_law_602 ?_
  refine RO.callV (As := [.int (xs (i + 1)), .int (xs (i + 2))]) (rest := [.int _]) cx (c_X7_sizeBy l G ad M (xs (i + 1)) (xs (i + 2)) h.r.m) gL_law_X7_sizeBy rfl hd_X7_sizeBy ⟨Nat.le_of_ble_eq_true rfl, Nat.le_of_ble_eq_true rfl⟩ (va_recv hK hPm (ci := 6) (q0 := 0) rfl rfl) hK hN hPm rfl hl.1 rfl (Nat.le_of_ble_eq_true rfl) dL_law_603 ⟨Nat.le_of_ble_eq_true rfl, Nat.le_of_ble_eq_true rfl⟩ ?_
  refine lv_icmp_eq (tgt := 763) cx.1 cx.2.1 dL_law_606 (by decide) (fun _ => ?_) (fun q => absurd (rSizeBy h.r _ _) q)
  exact k _ _ _ _ _ h hPx hPm hS hl
set_option maxHeartbeats 4000000 in
set_option maxRecDepth 100000 in
theorem law_c19 {Zz : State → Prop} {p : Program} {l : Launch} {e : Env} {s : State} {m : MethodId} {below : List Frame} {meth : Method} {c : Code} {G : GG} {a : Nat → Nat} {AD : Nat → Nat → Nat} {ad : Nat → Nat} {b L i : Nat} {xs : Nat → Int32} (F : LF p s m c G a AD ad b L xs) (hL : L ≤ 2048) (hi : i + 4 ≤ L) (k : LQ Zz p l e s m below meth c G a AD ad b i 763) : LQ Zz p l e s m below meth c G a AD ad b i 611 := by
  obtain ⟨cx, hK, hN, hX, hbl, hDx0, hDm0, hdis⟩ := F
  intro Y M H locs ls h hPx hPm hS hl
  have hDx : va_D (fun q => s.heap.size ≤ q) (plC G a AD Y) := hDx0.fst rfl
  have hDm : va_D (fun q => s.heap.size ≤ q) (mdC G ad M) := hDm0.fst rfl
  have hdis1 : ∀ q, wA (mdC G ad M) q → ¬ wA (plC G a AD Y) q := fun q h1 h2 => hdis q (pl_wA0 h2) h1
  refine lv_aload_n cx.1 cx.2.1 dL_law_611 rfl (lv_at hl 2 rfl) ?_
  refine lv_aload_n cx.1 cx.2.1 dL_law_612 rfl (lv_at hl 3 rfl) ?_
  refine lv_iload_n cx.1 cx.2.1 dL_law_613 rfl (lv_at hl 0 rfl) ?_
  refine lv_iconst (v := nI 1) cx.1 cx.2.1 dL_law_614 (by decide) ?_
  refine nv_iadd cx dL_law_615 ?_
  refine nv_sld (L := L) cx hX hbl hS (show i + 1 < L by omega) hL dL_law_616 ?_
  refine RO.callV (As := [.int (xs (i + 1))]) (rest := []) cx (c_X6_sizeWithout l G a AD Y (xs (i + 1)) h.r.x) gL_law_X6_sizeWithout rfl hd_X6_sizeWithout ⟨Nat.le_of_ble_eq_true rfl, Nat.le_of_ble_eq_true rfl⟩ (va_recv hK hPx (ci := 5) (q0 := 0) rfl rfl) hK hN hPx rfl hl.1 rfl (Nat.le_of_ble_eq_true rfl) dL_law_617 ⟨Nat.le_of_ble_eq_true rfl, Nat.le_of_ble_eq_true rfl⟩ ?_
  refine lv_aload_n cx.1 cx.2.1 dL_law_620 rfl (lv_at hl 1 rfl) ?_
  refine lv_aload_n cx.1 cx.2.1 dL_law_621 rfl (lv_at hl 3 rfl) ?_
  refine lv_iload_n cx.1 cx.2.1 dL_law_622 rfl (lv_at hl 0 rfl) ?_
  refine lv_iconst (v := nI 1) cx.1 cx.2.1 dL_law_623 (by decide) ?_
  refine nv_iadd cx dL_law_624 ?_
  refine nv_sld (L := L) cx hX hbl hS (show i + 1 < L by omega) hL dL_law_625 ?_
  refine RO.callV (As := [.int (xs (i + 1))]) (rest := [.int _]) cx (c_X7_sizeWithout l G ad M (xs (i + 1)) h.r.m) gL_law_X7_sizeWithout rfl hd_X7_sizeWithout ⟨Nat.le_of_ble_eq_true rfl, Nat.le_of_ble_eq_true rfl⟩ (va_recv hK hPm (ci := 6) (q0 := 0) rfl rfl) hK hN hPm rfl hl.1 rfl (Nat.le_of_ble_eq_true rfl) dL_law_626 ⟨Nat.le_of_ble_eq_true rfl, Nat.le_of_ble_eq_true rfl⟩ ?_
  refine lv_icmp_eq (tgt := 763) cx.1 cx.2.1 dL_law_629 (by decide) (fun _ => ?_) (fun q => absurd (rSizeWo h.r _) q)
  exact k _ _ _ _ _ h hPx hPm hS hl
set_option maxHeartbeats 4000000 in
set_option maxRecDepth 100000 in
theorem law_c20 {Zz : State → Prop} {p : Program} {l : Launch} {e : Env} {s : State} {m : MethodId} {below : List Frame} {meth : Method} {c : Code} {G : GG} {a : Nat → Nat} {AD : Nat → Nat → Nat} {ad : Nat → Nat} {b L i : Nat} {xs : Nat → Int32} (F : LF p s m c G a AD ad b L xs) (hL : L ≤ 2048) (hi : i + 4 ≤ L) (k : LQ Zz p l e s m below meth c G a AD ad b i 763) : LQ Zz p l e s m below meth c G a AD ad b i 634 := by
  obtain ⟨cx, hK, hN, hX, hbl, hDx0, hDm0, hdis⟩ := F
  intro Y M H locs ls h hPx hPm hS hl
  have hDx : va_D (fun q => s.heap.size ≤ q) (plC G a AD Y) := hDx0.fst rfl
  have hDm : va_D (fun q => s.heap.size ≤ q) (mdC G ad M) := hDm0.fst rfl
  have hdis1 : ∀ q, wA (mdC G ad M) q → ¬ wA (plC G a AD Y) q := fun q h1 h2 => hdis q (pl_wA0 h2) h1
  refine lv_aload_n cx.1 cx.2.1 dL_law_634 rfl (lv_at hl 2 rfl) ?_
  refine lv_aload_n cx.1 cx.2.1 dL_law_635 rfl (lv_at hl 3 rfl) ?_
  refine lv_iload_n cx.1 cx.2.1 dL_law_636 rfl (lv_at hl 0 rfl) ?_
  refine lv_iconst (v := nI 1) cx.1 cx.2.1 dL_law_637 (by decide) ?_
  refine nv_iadd cx dL_law_638 ?_
  refine nv_sld (L := L) cx hX hbl hS (show i + 1 < L by omega) hL dL_law_639 ?_
  refine RO.callV (As := [.int (xs (i + 1))]) (rest := []) cx (c_X6_leastWidth l G a AD Y (xs (i + 1)) h.r.x) gL_law_X6_leastWidth rfl hd_X6_leastWidth ⟨Nat.le_of_ble_eq_true rfl, Nat.le_of_ble_eq_true rfl⟩ (va_recv hK hPx (ci := 5) (q0 := 0) rfl rfl) hK hN hPx rfl hl.1 rfl (Nat.le_of_ble_eq_true rfl) dL_law_640 ⟨Nat.le_of_ble_eq_true rfl, Nat.le_of_ble_eq_true rfl⟩ ?_
  refine lv_aload_n cx.1 cx.2.1 dL_law_643 rfl (lv_at hl 1 rfl) ?_
  refine lv_aload_n cx.1 cx.2.1 dL_law_644 rfl (lv_at hl 3 rfl) ?_
  refine lv_iload_n cx.1 cx.2.1 dL_law_645 rfl (lv_at hl 0 rfl) ?_
  refine lv_iconst (v := nI 1) cx.1 cx.2.1 dL_law_646 (by decide) ?_
  refine nv_iadd cx dL_law_647 ?_
  refine nv_sld (L := L) cx hX hbl hS (show i + 1 < L by omega) hL dL_law_648 ?_
  refine RO.callV (As := [.int (xs (i + 1))]) (rest := [.int _]) cx (c_X7_leastWidth l G ad M (xs (i + 1)) h.r.m) gL_law_X7_leastWidth rfl hd_X7_leastWidth ⟨Nat.le_of_ble_eq_true rfl, Nat.le_of_ble_eq_true rfl⟩ (va_recv hK hPm (ci := 6) (q0 := 0) rfl rfl) hK hN hPm rfl hl.1 rfl (Nat.le_of_ble_eq_true rfl) dL_law_649 ⟨Nat.le_of_ble_eq_true rfl, Nat.le_of_ble_eq_true rfl⟩ ?_
  refine lv_icmp_eq (tgt := 763) cx.1 cx.2.1 dL_law_652 (by decide) (fun _ => ?_) (fun q => absurd (rLeast h.r _) q)
  exact k _ _ _ _ _ h hPx hPm hS hl
set_option maxHeartbeats 4000000 in
set_option maxRecDepth 100000 in
theorem law_c21 {Zz : State → Prop} {p : Program} {l : Launch} {e : Env} {s : State} {m : MethodId} {below : List Frame} {meth : Method} {c : Code} {G : GG} {a : Nat → Nat} {AD : Nat → Nat → Nat} {ad : Nat → Nat} {b L i : Nat} {xs : Nat → Int32} (F : LF p s m c G a AD ad b L xs) (hL : L ≤ 2048) (hi : i + 4 ≤ L) (k : LQ Zz p l e s m below meth c G a AD ad b i 763) : LQ Zz p l e s m below meth c G a AD ad b i 657 := by
  obtain ⟨cx, hK, hN, hX, hbl, hDx0, hDm0, hdis⟩ := F
  intro Y M H locs ls h hPx hPm hS hl
  have hDx : va_D (fun q => s.heap.size ≤ q) (plC G a AD Y) := hDx0.fst rfl
  have hDm : va_D (fun q => s.heap.size ≤ q) (mdC G ad M) := hDm0.fst rfl
  have hdis1 : ∀ q, wA (mdC G ad M) q → ¬ wA (plC G a AD Y) q := fun q h1 h2 => hdis q (pl_wA0 h2) h1
  refine lv_aload_n cx.1 cx.2.1 dL_law_657 rfl (lv_at hl 2 rfl) ?_
  refine RO.callV (As := []) (rest := []) cx (c_X6_longest l G a AD Y  h.r.x) gL_law_X6_longest rfl hd_X6_longest ⟨Nat.le_of_ble_eq_true rfl, Nat.le_of_ble_eq_true rfl⟩ (va_recv hK hPx (ci := 5) (q0 := 0) rfl rfl) hK hN hPx rfl hl.1 rfl (Nat.le_of_ble_eq_true rfl) dL_law_658 ⟨Nat.le_of_ble_eq_true rfl, Nat.le_of_ble_eq_true rfl⟩ ?_
  refine lv_aload_n cx.1 cx.2.1 dL_law_661 rfl (lv_at hl 1 rfl) ?_
  refine RO.callV (As := []) (rest := [.int _]) cx (c_X7_longest l G ad M  h.r.m) gL_law_X7_longest rfl hd_X7_longest ⟨Nat.le_of_ble_eq_true rfl, Nat.le_of_ble_eq_true rfl⟩ (va_recv hK hPm (ci := 6) (q0 := 0) rfl rfl) hK hN hPm rfl hl.1 rfl (Nat.le_of_ble_eq_true rfl) dL_law_662 ⟨Nat.le_of_ble_eq_true rfl, Nat.le_of_ble_eq_true rfl⟩ ?_
  refine lv_icmp_eq (tgt := 763) cx.1 cx.2.1 dL_law_665 (by decide) (fun _ => ?_) (fun q => absurd (rLong h.r) q)
  exact k _ _ _ _ _ h hPx hPm hS hl
set_option maxHeartbeats 4000000 in
set_option maxRecDepth 100000 in
theorem law_c22 {Zz : State → Prop} {p : Program} {l : Launch} {e : Env} {s : State} {m : MethodId} {below : List Frame} {meth : Method} {c : Code} {G : GG} {a : Nat → Nat} {AD : Nat → Nat → Nat} {ad : Nat → Nat} {b L i : Nat} {xs : Nat → Int32} (F : LF p s m c G a AD ad b L xs) (hL : L ≤ 2048) (hi : i + 4 ≤ L) (k : LQ Zz p l e s m below meth c G a AD ad b i 763) : LQ Zz p l e s m below meth c G a AD ad b i 670 := by
  obtain ⟨cx, hK, hN, hX, hbl, hDx0, hDm0, hdis⟩ := F
  intro Y M H locs ls h hPx hPm hS hl
  have hDx : va_D (fun q => s.heap.size ≤ q) (plC G a AD Y) := hDx0.fst rfl
  have hDm : va_D (fun q => s.heap.size ≤ q) (mdC G ad M) := hDm0.fst rfl
  have hdis1 : ∀ q, wA (mdC G ad M) q → ¬ wA (plC G a AD Y) q := fun q h1 h2 => hdis q (pl_wA0 h2) h1
  refine lv_aload_n cx.1 cx.2.1 dL_law_670 rfl (lv_at hl 2 rfl) ?_
  refine lv_aload_n cx.1 cx.2.1 dL_law_671 rfl (lv_at hl 3 rfl) ?_
  refine lv_iload_n cx.1 cx.2.1 dL_law_672 rfl (lv_at hl 0 rfl) ?_
  refine lv_iconst (v := nI 1) cx.1 cx.2.1 dL_law_673 (by decide) ?_
  refine nv_iadd cx dL_law_674 ?_
  refine nv_sld (L := L) cx hX hbl hS (show i + 1 < L by omega) hL dL_law_675 ?_
  refine lv_i2c cx.1 cx.2.1 dL_law_676 rfl ?_
  refine lv_aload_n cx.1 cx.2.1 dL_law_677 rfl (lv_at hl 3 rfl) ?_
  refine lv_iload_n cx.1 cx.2.1 dL_law_678 rfl (lv_at hl 0 rfl) ?_
  refine lv_iconst (v := nI 2) cx.1 cx.2.1 dL_law_679 (by decide) ?_
  refine nv_iadd cx dL_law_680 ?_
  refine nv_sld (L := L) cx hX hbl hS (show i + 2 < L by omega) hL dL_law_681 ?_
  refine lv_i2c cx.1 cx.2.1 dL_law_682 rfl ?_
  refine RO.callV (As := [.int (((xs (i + 1)).toUInt32 % 65536).toInt32), .int (((xs (i + 2)).toUInt32 % 65536).toInt32)]) (rest := []) cx (c_X6_adjustment l G a AD Y (((xs (i + 1)).toUInt32 % 65536).toInt32) (((xs (i + 2)).toUInt32 % 65536).toInt32) h.r.x) gL_law_X6_adjustment rfl hd_X6_adjustment ⟨Nat.le_of_ble_eq_true rfl, Nat.le_of_ble_eq_true rfl⟩ (va_recv hK hPx (ci := 5) (q0 := 0) rfl rfl) hK hN hPx rfl hl.1 rfl (Nat.le_of_ble_eq_true rfl) dL_law_683 ⟨Nat.le_of_ble_eq_true rfl, Nat.le_of_ble_eq_true rfl⟩ ?_
  refine lv_aload_n cx.1 cx.2.1 dL_law_686 rfl (lv_at hl 1 rfl) ?_
  refine lv_aload_n cx.1 cx.2.1 dL_law_687 rfl (lv_at hl 3 rfl) ?_
  refine lv_iload_n cx.1 cx.2.1 dL_law_688 rfl (lv_at hl 0 rfl) ?_
  refine lv_iconst (v := nI 1) cx.1 cx.2.1 dL_law_689 (by decide) ?_
  refine nv_iadd cx dL_law_690 ?_
  refine nv_sld (L := L) cx hX hbl hS (show i + 1 < L by omega) hL dL_law_691 ?_
  refine lv_i2c cx.1 cx.2.1 dL_law_692 rfl ?_
  refine lv_aload_n cx.1 cx.2.1 dL_law_693 rfl (lv_at hl 3 rfl) ?_
  refine lv_iload_n cx.1 cx.2.1 dL_law_694 rfl (lv_at hl 0 rfl) ?_
  refine lv_iconst (v := nI 2) cx.1 cx.2.1 dL_law_695 (by decide) ?_
  refine nv_iadd cx dL_law_696 ?_
  refine nv_sld (L := L) cx hX hbl hS (show i + 2 < L by omega) hL dL_law_697 ?_
  refine lv_i2c cx.1 cx.2.1 dL_law_698 rfl ?_
  refine RO.callV (As := [.int (((xs (i + 1)).toUInt32 % 65536).toInt32), .int (((xs (i + 2)).toUInt32 % 65536).toInt32)]) (rest := [.int _]) cx (c_X7_adjustment l G ad M (((xs (i + 1)).toUInt32 % 65536).toInt32) (((xs (i + 2)).toUInt32 % 65536).toInt32) h.r.m) gL_law_X7_adjustment rfl hd_X7_adjustment ⟨Nat.le_of_ble_eq_true rfl, Nat.le_of_ble_eq_true rfl⟩ (va_recv hK hPm (ci := 6) (q0 := 0) rfl rfl) hK hN hPm rfl hl.1 rfl (Nat.le_of_ble_eq_true rfl) dL_law_699 ⟨Nat.le_of_ble_eq_true rfl, Nat.le_of_ble_eq_true rfl⟩ ?_
  refine lv_icmp_eq (tgt := 763) cx.1 cx.2.1 dL_law_702 (by decide) (fun _ => ?_) (fun q => absurd (by rw [rAdj h.r.P]; rfl) q)
  exact k _ _ _ _ _ h hPx hPm hS hl
set_option maxHeartbeats 4000000 in
set_option maxRecDepth 100000 in
theorem law_c23 {Zz : State → Prop} {p : Program} {l : Launch} {e : Env} {s : State} {m : MethodId} {below : List Frame} {meth : Method} {c : Code} {G : GG} {a : Nat → Nat} {AD : Nat → Nat → Nat} {ad : Nat → Nat} {b L i : Nat} {xs : Nat → Int32} (F : LF p s m c G a AD ad b L xs) (hL : L ≤ 2048) (hi : i + 4 ≤ L) (k : LQ Zz p l e s m below meth c G a AD ad b i 763) : LQ Zz p l e s m below meth c G a AD ad b i 707 := by
  obtain ⟨cx, hK, hN, hX, hbl, hDx0, hDm0, hdis⟩ := F
  intro Y M H locs ls h hPx hPm hS hl
  have hDx : va_D (fun q => s.heap.size ≤ q) (plC G a AD Y) := hDx0.fst rfl
  have hDm : va_D (fun q => s.heap.size ≤ q) (mdC G ad M) := hDm0.fst rfl
  have hdis1 : ∀ q, wA (mdC G ad M) q → ¬ wA (plC G a AD Y) q := fun q h1 h2 => hdis q (pl_wA0 h2) h1
  refine lv_aload_n cx.1 cx.2.1 dL_law_707 rfl (lv_at hl 2 rfl) ?_
  refine lv_aload_n cx.1 cx.2.1 dL_law_708 rfl (lv_at hl 3 rfl) ?_
  refine lv_iload_n cx.1 cx.2.1 dL_law_709 rfl (lv_at hl 0 rfl) ?_
  refine lv_iconst (v := nI 1) cx.1 cx.2.1 dL_law_710 (by decide) ?_
  refine nv_iadd cx dL_law_711 ?_
  refine nv_sld (L := L) cx hX hbl hS (show i + 1 < L by omega) hL dL_law_712 ?_
  refine lv_aload_n cx.1 cx.2.1 dL_law_713 rfl (lv_at hl 3 rfl) ?_
  refine lv_iload_n cx.1 cx.2.1 dL_law_714 rfl (lv_at hl 0 rfl) ?_
  refine lv_iconst (v := nI 2) cx.1 cx.2.1 dL_law_715 (by decide) ?_
  refine nv_iadd cx dL_law_716 ?_
  refine nv_sld (L := L) cx hX hbl hS (show i + 2 < L by omega) hL dL_law_717 ?_
  refine RO.callV (As := [.int (xs (i + 1)), .int (xs (i + 2))]) (rest := []) cx (c_X6_pair l G a AD Y (xs (i + 1)) (xs (i + 2)) h.r.x) gL_law_X6_pair rfl hd_X6_pair ⟨Nat.le_of_ble_eq_true rfl, Nat.le_of_ble_eq_true rfl⟩ (va_recv hK hPx (ci := 5) (q0 := 0) rfl rfl) hK hN hPx rfl hl.1 rfl (Nat.le_of_ble_eq_true rfl) dL_law_718 ⟨Nat.le_of_ble_eq_true rfl, Nat.le_of_ble_eq_true rfl⟩ ?_
  refine lv_aload_n cx.1 cx.2.1 dL_law_721 rfl (lv_at hl 1 rfl) ?_
  refine lv_aload_n cx.1 cx.2.1 dL_law_722 rfl (lv_at hl 3 rfl) ?_
  refine lv_iload_n cx.1 cx.2.1 dL_law_723 rfl (lv_at hl 0 rfl) ?_
  refine lv_iconst (v := nI 1) cx.1 cx.2.1 dL_law_724 (by decide) ?_
  refine nv_iadd cx dL_law_725 ?_
  refine nv_sld (L := L) cx hX hbl hS (show i + 1 < L by omega) hL dL_law_726 ?_
  refine lv_aload_n cx.1 cx.2.1 dL_law_727 rfl (lv_at hl 3 rfl) ?_
  refine lv_iload_n cx.1 cx.2.1 dL_law_728 rfl (lv_at hl 0 rfl) ?_
  refine lv_iconst (v := nI 2) cx.1 cx.2.1 dL_law_729 (by decide) ?_
  refine nv_iadd cx dL_law_730 ?_
  refine nv_sld (L := L) cx hX hbl hS (show i + 2 < L by omega) hL dL_law_731 ?_
  refine RO.callV (As := [.int (xs (i + 1)), .int (xs (i + 2))]) (rest := [.int _]) cx (c_X7_pair l G ad M (xs (i + 1)) (xs (i + 2)) h.r.m) gL_law_X7_pair rfl hd_X7_pair ⟨Nat.le_of_ble_eq_true rfl, Nat.le_of_ble_eq_true rfl⟩ (va_recv hK hPm (ci := 6) (q0 := 0) rfl rfl) hK hN hPm rfl hl.1 rfl (Nat.le_of_ble_eq_true rfl) dL_law_732 ⟨Nat.le_of_ble_eq_true rfl, Nat.le_of_ble_eq_true rfl⟩ ?_
  refine lv_icmp_eq (tgt := 763) cx.1 cx.2.1 dL_law_735 (by decide) (fun _ => ?_) (fun q => absurd (rPair h.r _ _) q)
  exact k _ _ _ _ _ h hPx hPm hS hl
set_option maxHeartbeats 4000000 in
set_option maxRecDepth 100000 in
theorem law_c24 {Zz : State → Prop} {p : Program} {l : Launch} {e : Env} {s : State} {m : MethodId} {below : List Frame} {meth : Method} {c : Code} {G : GG} {a : Nat → Nat} {AD : Nat → Nat → Nat} {ad : Nat → Nat} {b L i : Nat} {xs : Nat → Int32} (F : LF p s m c G a AD ad b L xs) (hL : L ≤ 2048) (hi : i + 4 ≤ L) (k : LQ Zz p l e s m below meth c G a AD ad b i 763) : LQ Zz p l e s m below meth c G a AD ad b i 740 := by
  obtain ⟨cx, hK, hN, hX, hbl, hDx0, hDm0, hdis⟩ := F
  intro Y M H locs ls h hPx hPm hS hl
  have hDx : va_D (fun q => s.heap.size ≤ q) (plC G a AD Y) := hDx0.fst rfl
  have hDm : va_D (fun q => s.heap.size ≤ q) (mdC G ad M) := hDm0.fst rfl
  have hdis1 : ∀ q, wA (mdC G ad M) q → ¬ wA (plC G a AD Y) q := fun q h1 h2 => hdis q (pl_wA0 h2) h1
  refine lv_aload_n cx.1 cx.2.1 dL_law_740 rfl (lv_at hl 2 rfl) ?_
  refine lv_aload_n cx.1 cx.2.1 dL_law_741 rfl (lv_at hl 3 rfl) ?_
  refine lv_iload_n cx.1 cx.2.1 dL_law_742 rfl (lv_at hl 0 rfl) ?_
  refine lv_iconst (v := nI 1) cx.1 cx.2.1 dL_law_743 (by decide) ?_
  refine nv_iadd cx dL_law_744 ?_
  refine nv_sld (L := L) cx hX hbl hS (show i + 1 < L by omega) hL dL_law_745 ?_
  refine RO.callV (As := [.int (xs (i + 1))]) (rest := []) cx (c_X6_count l G a AD Y (xs (i + 1)) h.r.x) gL_law_X6_count rfl hd_X6_count ⟨Nat.le_of_ble_eq_true rfl, Nat.le_of_ble_eq_true rfl⟩ (va_recv hK hPx (ci := 5) (q0 := 0) rfl rfl) hK hN hPx rfl hl.1 rfl (Nat.le_of_ble_eq_true rfl) dL_law_746 ⟨Nat.le_of_ble_eq_true rfl, Nat.le_of_ble_eq_true rfl⟩ ?_
  refine lv_aload_n cx.1 cx.2.1 dL_law_749 rfl (lv_at hl 1 rfl) ?_
  refine lv_aload_n cx.1 cx.2.1 dL_law_750 rfl (lv_at hl 3 rfl) ?_
  refine lv_iload_n cx.1 cx.2.1 dL_law_751 rfl (lv_at hl 0 rfl) ?_
  refine lv_iconst (v := nI 1) cx.1 cx.2.1 dL_law_752 (by decide) ?_
  refine nv_iadd cx dL_law_753 ?_
  refine nv_sld (L := L) cx hX hbl hS (show i + 1 < L by omega) hL dL_law_754 ?_
  refine RO.callV (As := [.int (xs (i + 1))]) (rest := [.int _]) cx (c_X7_count l G ad M (xs (i + 1)) h.r.m) gL_law_X7_count rfl hd_X7_count ⟨Nat.le_of_ble_eq_true rfl, Nat.le_of_ble_eq_true rfl⟩ (va_recv hK hPm (ci := 6) (q0 := 0) rfl rfl) hK hN hPm rfl hl.1 rfl (Nat.le_of_ble_eq_true rfl) dL_law_755 ⟨Nat.le_of_ble_eq_true rfl, Nat.le_of_ble_eq_true rfl⟩ ?_
  refine lv_icmp_eq (tgt := 763) cx.1 cx.2.1 dL_law_758 (by decide) (fun _ => ?_) (fun q => absurd (rCount h.r h.h.2.1 h.t.2.1 _) q)
  exact k _ _ _ _ _ h hPx hPm hS hl
