/-! ===== the law's switch and loop (laid by wip/whole/layw.py) ===== -/
set_option maxHeartbeats 4000000 in
set_option maxRecDepth 100000 in
theorem law_sw {Zz : State → Prop} {p : Program} {l : Launch} {e : Env} {s : State} {m : MethodId} {below : List Frame} {meth : Method} {c : Code} {G : GG} {a : Nat → Nat} {AD : Nat → Nat → Nat} {ad : Nat → Nat} {b L : Nat} {xs : Nat → Int32} (F : LF p s m c G a AD ad b L xs) (hL : L ≤ 2048) {i : Nat} (hi : i + 4 ≤ L) (k : LQ Zz p l e s m below meth c G a AD ad b i 763) : LQ Zz p l e s m below meth c G a AD ad b i 26 := by
  intro Y M H locs ls h hPx hPm hS hl
  obtain ⟨cx, hK, hN, hX, hbl, hDx0, hDm0, hdis⟩ := id F
  refine lv_aload_n cx.1 cx.2.1 dL_law_26 rfl (lv_at hl 3 rfl) ?_
  refine lv_iload_n cx.1 cx.2.1 dL_law_27 rfl (lv_at hl 0 rfl) ?_
  refine nv_sld (L := L) cx hX hbl hS (show i < L by omega) hL dL_law_28 ?_
  refine lv_bipush (v := nI 31) cx.1 cx.2.1 dL_law_29 (by decide) ?_
  refine lv_iand cx.1 cx.2.1 dL_law_31 ?_
  obtain ⟨t, ht, e31⟩ := and31 (xs i)
  refine nv_eqi e31 ?_
  by_cases h25 : t < 25
  · rcases (show t = 0 ∨ t = 1 ∨ t = 2 ∨ t = 3 ∨ t = 4 ∨ t = 5 ∨ t = 6 ∨ t = 7 ∨ t = 8 ∨ t = 9 ∨ t = 10 ∨ t = 11 ∨ t = 12 ∨ t = 13 ∨ t = 14 ∨ t = 15 ∨ t = 16 ∨ t = 17 ∨ t = 18 ∨ t = 19 ∨ t = 20 ∨ t = 21 ∨ t = 22 ∨ t = 23 ∨ t = 24 by omega) with rfl | rfl | rfl | rfl | rfl | rfl | rfl | rfl | rfl | rfl | rfl | rfl | rfl | rfl | rfl | rfl | rfl | rfl | rfl | rfl | rfl | rfl | rfl | rfl | rfl
    · refine lv_tableIn (tgt := 148) (off := 116) cx.1 cx.2.1 dL_law_32 (by decide) (by decide) (by decide) (by decide) ?_
      exact law_c0 F hL hi k Y M H locs ls h hPx hPm hS hl
    · refine lv_tableIn (tgt := 181) (off := 149) cx.1 cx.2.1 dL_law_32 (by decide) (by decide) (by decide) (by decide) ?_
      exact law_c1 F hL hi k Y M H locs ls h hPx hPm hS hl
    · refine lv_tableIn (tgt := 204) (off := 172) cx.1 cx.2.1 dL_law_32 (by decide) (by decide) (by decide) (by decide) ?_
      exact law_c2 F hL hi k Y M H locs ls h hPx hPm hS hl
    · refine lv_tableIn (tgt := 227) (off := 195) cx.1 cx.2.1 dL_law_32 (by decide) (by decide) (by decide) (by decide) ?_
      exact law_c3 F hL hi k Y M H locs ls h hPx hPm hS hl
    · refine lv_tableIn (tgt := 274) (off := 242) cx.1 cx.2.1 dL_law_32 (by decide) (by decide) (by decide) (by decide) ?_
      exact law_c4 F hL hi k Y M H locs ls h hPx hPm hS hl
    · refine lv_tableIn (tgt := 299) (off := 267) cx.1 cx.2.1 dL_law_32 (by decide) (by decide) (by decide) (by decide) ?_
      exact law_c5 F hL hi k Y M H locs ls h hPx hPm hS hl
    · refine lv_tableIn (tgt := 312) (off := 280) cx.1 cx.2.1 dL_law_32 (by decide) (by decide) (by decide) (by decide) ?_
      exact law_c6 F hL hi k Y M H locs ls h hPx hPm hS hl
    · refine lv_tableIn (tgt := 325) (off := 293) cx.1 cx.2.1 dL_law_32 (by decide) (by decide) (by decide) (by decide) ?_
      exact law_c7 F hL hi k Y M H locs ls h hPx hPm hS hl
    · refine lv_tableIn (tgt := 348) (off := 316) cx.1 cx.2.1 dL_law_32 (by decide) (by decide) (by decide) (by decide) ?_
      exact law_c8 F hL hi k Y M H locs ls h hPx hPm hS hl
    · refine lv_tableIn (tgt := 381) (off := 349) cx.1 cx.2.1 dL_law_32 (by decide) (by decide) (by decide) (by decide) ?_
      exact law_c9 F hL hi k Y M H locs ls h hPx hPm hS hl
    · refine lv_tableIn (tgt := 404) (off := 372) cx.1 cx.2.1 dL_law_32 (by decide) (by decide) (by decide) (by decide) ?_
      exact law_c10 F hL hi k Y M H locs ls h hPx hPm hS hl
    · refine lv_tableIn (tgt := 417) (off := 385) cx.1 cx.2.1 dL_law_32 (by decide) (by decide) (by decide) (by decide) ?_
      exact law_c11 F hL hi k Y M H locs ls h hPx hPm hS hl
    · refine lv_tableIn (tgt := 430) (off := 398) cx.1 cx.2.1 dL_law_32 (by decide) (by decide) (by decide) (by decide) ?_
      exact law_c12 F hL hi k Y M H locs ls h hPx hPm hS hl
    · refine lv_tableIn (tgt := 443) (off := 411) cx.1 cx.2.1 dL_law_32 (by decide) (by decide) (by decide) (by decide) ?_
      exact law_c13 F hL hi k Y M H locs ls h hPx hPm hS hl
    · refine lv_tableIn (tgt := 456) (off := 424) cx.1 cx.2.1 dL_law_32 (by decide) (by decide) (by decide) (by decide) ?_
      exact law_c14 F hL hi k Y M H locs ls h hPx hPm hS hl
    · refine lv_tableIn (tgt := 489) (off := 457) cx.1 cx.2.1 dL_law_32 (by decide) (by decide) (by decide) (by decide) ?_
      exact law_c15 F hL hi k Y M H locs ls h hPx hPm hS hl
    · refine lv_tableIn (tgt := 532) (off := 500) cx.1 cx.2.1 dL_law_32 (by decide) (by decide) (by decide) (by decide) ?_
      exact law_c16 F hL hi k Y M H locs ls h hPx hPm hS hl
    · refine lv_tableIn (tgt := 565) (off := 533) cx.1 cx.2.1 dL_law_32 (by decide) (by decide) (by decide) (by decide) ?_
      exact law_c17 F hL hi k Y M H locs ls h hPx hPm hS hl
    · refine lv_tableIn (tgt := 578) (off := 546) cx.1 cx.2.1 dL_law_32 (by decide) (by decide) (by decide) (by decide) ?_
      exact law_c18 F hL hi k Y M H locs ls h hPx hPm hS hl
    · refine lv_tableIn (tgt := 611) (off := 579) cx.1 cx.2.1 dL_law_32 (by decide) (by decide) (by decide) (by decide) ?_
      exact law_c19 F hL hi k Y M H locs ls h hPx hPm hS hl
    · refine lv_tableIn (tgt := 634) (off := 602) cx.1 cx.2.1 dL_law_32 (by decide) (by decide) (by decide) (by decide) ?_
      exact law_c20 F hL hi k Y M H locs ls h hPx hPm hS hl
    · refine lv_tableIn (tgt := 657) (off := 625) cx.1 cx.2.1 dL_law_32 (by decide) (by decide) (by decide) (by decide) ?_
      exact law_c21 F hL hi k Y M H locs ls h hPx hPm hS hl
    · refine lv_tableIn (tgt := 670) (off := 638) cx.1 cx.2.1 dL_law_32 (by decide) (by decide) (by decide) (by decide) ?_
      exact law_c22 F hL hi k Y M H locs ls h hPx hPm hS hl
    · refine lv_tableIn (tgt := 707) (off := 675) cx.1 cx.2.1 dL_law_32 (by decide) (by decide) (by decide) (by decide) ?_
      exact law_c23 F hL hi k Y M H locs ls h hPx hPm hS hl
    · refine lv_tableIn (tgt := 740) (off := 708) cx.1 cx.2.1 dL_law_32 (by decide) (by decide) (by decide) (by decide) ?_
      exact law_c24 F hL hi k Y M H locs ls h hPx hPm hS hl
  · refine lv_tableOut (tgt := 763) cx.1 cx.2.1 dL_law_32 (Or.inr (by rw [nI_toInt (show t < 2147483648 by omega)]; omega)) (by decide) ?_
    exact k Y M H locs ls h hPx hPm hS hl
set_option maxHeartbeats 4000000 in
set_option maxRecDepth 100000 in
theorem law_loop {Zz : State → Prop} {p : Program} {l : Launch} {e : Env} {s : State} {m : MethodId} {below : List Frame} {meth : Method} {c : Code} {G : GG} {a : Nat → Nat} {AD : Nat → Nat → Nat} {ad : Nat → Nat} {b L : Nat} {xs : Nat → Int32} (F : LF p s m c G a AD ad b L xs) (hL : L ≤ 2048) (kend : ∀ i, LQ Zz p l e s m below meth c G a AD ad b i 769) : ∀ (n i : Nat), L ≤ i + n → i ≤ L + 4 → LQ Zz p l e s m below meth c G a AD ad b i 18 := by
  have one : ∀ i, i ≤ L + 4 → (i + 4 ≤ L → LQ Zz p l e s m below meth c G a AD ad b (i + 4) 18) → LQ Zz p l e s m below meth c G a AD ad b i 18 := by
    intro i hi4 nx Y M H locs ls h hPx hPm hS hl
    obtain ⟨cx, hK, hN, hX, hbl, hDx0, hDm0, hdis⟩ := id F
    refine lv_iload_n cx.1 cx.2.1 dL_law_18 rfl (lv_at hl 0 rfl) ?_
    refine lv_aload_n cx.1 cx.2.1 dL_law_19 rfl (lv_at hl 3 rfl) ?_
    refine va_slen cx.1 cx.2.1 hX hbl (Nat.not_le.mpr hbl) hS dL_law_20 ?_
    refine lv_iconst (v := nI 4) cx.1 cx.2.1 dL_law_21 (by decide) ?_
    refine lv_isub cx.1 cx.2.1 dL_law_22 ?_
    refine lv_icmp_gt (tgt := 769) cx.1 cx.2.1 dL_law_23 (by decide) (fun q => ?_) (fun q => ?_)
    · exact kend i Y M H locs ls h hPx hPm hS hl
    · have hi : i + 4 ≤ L := by
        rcases Nat.lt_or_ge L (i + 4) with y | y
        · exact absurd ((lw_gt hL (by omega)).mpr (by omega)) q
        · exact y
      refine law_sw F hL hi (fun Y M H locs ls h hPx hPm hS hl => ?_) Y M H locs ls h hPx hPm hS hl
      refine lv_iinc (v := nI (i + 4)) (lv' := [(3, .int (nI (i + 4))), (2, .ref (ad 0)), (1, .ref (a 0)), (0, .ref b)]) cx.1 cx.2.1 dL_law_763 hl (k := 0) rfl (show nI i + Int32.ofInt 4 = nI (i + 4) from nI_add i 4) (by decide) rfl (fun ls hl => ?_)
      refine lv_goto (tgt := 18) cx.1 cx.2.1 dL_law_766 (by decide) ?_
      exact nx hi Y M H locs ls h hPx hPm hS hl
  intro n
  induction n with
  | zero =>
    intro i h1 h2
    exact one i h2 (fun q => absurd q (by omega))
  | succ n ih =>
    intro i h1 h2
    exact one i h2 (fun q => ih (i + 4) (by omega) (by omega))
theorem pA {D : va_G} {cl : List vw_C} {ws w2 : va_W} {H : Heap} (h : va_P D cl (ws ++ w2) H) : va_P D cl ws H ∧ va_P D cl w2 H := ⟨va_P.all (fun q hq => h.mem (List.mem_append_left _ hq)), va_P.all (fun q hq => h.mem (List.mem_append_right _ hq))⟩
theorem dA {A : Nat → Prop} {ws w2 : va_W} (h : va_D A (ws ++ w2)) : va_D A ws ∧ va_D A w2 ∧ ∀ q, wA ws q → ¬ wA w2 q := by
  have hn := h.nd
  rw [List.map_append] at hn
  obtain ⟨n1, n2, n3⟩ := List.nodup_append.mp hn
  refine ⟨va_D.of_nd n1 (fun x hx => wA_in h (by unfold wA; rw [List.map_append]; exact List.mem_append_left _ hx)), va_D.of_nd n2 (fun x hx => wA_in h (by unfold wA; rw [List.map_append]; exact List.mem_append_right _ hx)), fun q h1 h2 => n3 q h1 q h2 rfl⟩
set_option maxRecDepth 100000 in
theorem lin_nw : ∀ w ∈ nw, w ∈ lw_tbl := in_r _ [101, 70, 151, 105, 107, 115, 117, 90, 109, 111, 103, 167, 69] rfl
set_option maxRecDepth 100000 in
theorem lin_nm : ∀ w ∈ nmw, w ∈ lw_tbl := in_r _ [56, 62, 82, 147, 161] rfl
set_option maxRecDepth 100000 in
theorem lin_ao : (Cond.arrayOver (.object "NamePlate$State")) ∈ lw_tbl := List.mem_of_getElem? (i := 146) rfl
theorem on_nw : ∀ w ∈ nw, w.onTables = true := by decide +kernel
theorem on_nm : ∀ w ∈ nmw, w.onTables = true := by decide +kernel
