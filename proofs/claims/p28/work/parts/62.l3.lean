/-! ===== specs_l3: laid by program (wip/p28/lay28.py) ===== -/
set_option maxHeartbeats 4000000 in
set_option maxRecDepth 100000 in
theorem c_L_name (l : Launch) (G : GG) (a : Nat → Nat) (AD : Nat → Nat → Nat) (Y : Nat → XS) (k : Nat) (hG : Gd Y) (hk : k < xn (Y 5)) : RO l yL_name wsL_name 7 168 G (plC G a AD Y) [.ref (a 0), .int (nI k)] (b2i true) := by
  refine RO.start (cc := cL_name) (maxL := 13) (ret := (some .boolean)) (by decide) rfl (Nat.le_of_ble_eq_true rfl) ?_
  intro p e s m below meth c ls cx hr hlocks hK hN hP hl
  have cx : CallFix p m c cL_name 13 s [.ref (a 0), .int (nI k)].toArray wsL_name RL := cx
  have hl : lv_has ls 13 [(0, .ref (a 0)), (1, .int (nI k))] := hl
  have hok := hG.ok
  have hn20 := hok.n20
  have hp16 := hok.p16
  have hv := hG.v
  obtain ⟨f, hRl⟩ := hG.r
  have hcn := col_ne hRl
  have hl16 := hok.l16 (show k < 20 by omega)
  have hl1 := hRl.l1 hk
  refine lv_aload_n cx.1 cx.2.1 dL_name_0 rfl (lv_at hl 0 rfl) ?_
  refine lv_iload_n cx.1 cx.2.1 dL_name_1 rfl (lv_at hl 1 rfl) ?_
  refine lv_iconst (v := nI 0) cx.1 cx.2.1 dL_name_2 (by decide) ?_
  refine RO.callV (As := [.int (nI k), .int 0]) (rest := []) cx (c_X6_name l G a AD Y (nI k) 0 hok) gL_name_X6_name rfl hd_X6_name ⟨Nat.le_of_ble_eq_true rfl, Nat.le_of_ble_eq_true rfl⟩ (va_recv hK hP (ci := 5) (q0 := 0) rfl rfl) hK hN hP rfl hl.1 rfl (Nat.le_of_ble_eq_true rfl) dL_name_3 ⟨Nat.zero_le _, Nat.zero_le _⟩ ?_
  refine nv_eqi (y := nI (xl (Y 5) k)) (nm0 hok (by omega)) ?_
  refine lv_istore_n (lv' := [(2, .int (nI (xl (Y 5) k))), (0, .ref (a 0)), (1, .int (nI k))]) cx.1 cx.2.1 dL_name_6 rfl hl (by decide) rfl (fun ls hl => ?_)
  refine lv_iconst (v := nI 0) cx.1 cx.2.1 dL_name_7 (by decide) ?_
  refine lv_istore_n (lv' := [(3, .int (nI 0)), (2, .int (nI (xl (Y 5) k))), (0, .ref (a 0)), (1, .int (nI k))]) cx.1 cx.2.1 dL_name_8 rfl hl (by decide) rfl (fun ls hl => ?_)
  refine lv_iconst (v := nI 0) cx.1 cx.2.1 dL_name_9 (by decide) ?_
  refine lv_istore (lv' := [(4, .int (nI 0)), (3, .int (nI 0)), (2, .int (nI (xl (Y 5) k))), (0, .ref (a 0)), (1, .int (nI k))]) cx.1 cx.2.1 dL_name_10 hl (by decide) rfl (fun ls hl => ?_)
  refine lv_aload_n cx.1 cx.2.1 dL_name_12 rfl (lv_at hl 3 rfl) ?_
  refine RO.callV (As := []) (rest := []) cx (c_X6_size l G a AD Y hok) gL_name_X6_size rfl hd_X6_size ⟨Nat.le_of_ble_eq_true rfl, Nat.le_of_ble_eq_true rfl⟩ (va_recv hK hP (ci := 5) (q0 := 0) rfl rfl) hK hN hP rfl hl.1 rfl (Nat.le_of_ble_eq_true rfl) dL_name_13 ⟨Nat.zero_le _, Nat.zero_le _⟩ ?_
  refine lv_istore (lv' := [(5, .int (xSize (Y 5))), (4, .int (nI 0)), (3, .int (nI 0)), (2, .int (nI (xl (Y 5) k))), (0, .ref (a 0)), (1, .int (nI k))]) cx.1 cx.2.1 dL_name_16 hl (by decide) rfl (fun ls hl => ?_)
  refine lv_iconst (v := nI 0) cx.1 cx.2.1 dL_name_18 (by decide) ?_
  refine lv_istore (lv' := [(6, .int (nI 0)), (5, .int (xSize (Y 5))), (4, .int (nI 0)), (3, .int (nI 0)), (2, .int (nI (xl (Y 5) k))), (0, .ref (a 0)), (1, .int (nI k))]) cx.1 cx.2.1 dL_name_19 hl (by decide) rfl (fun ls hl => ?_)
  have lp21 : ∀ (r : Nat) (x : Nat) (hr9 : xl (Y 5) k - x < r) (hi : x ≤ xl (Y 5) k) (ls : Array Slot), lv_has ls 13 [(0, .ref (a 0)), (1, .int (nI k)), (2, .int (nI (xl (Y 5) k))), (3, .int (xUb (Y 5) k x)), (4, .int (sumI (fun j => xI (xSg (Y 5) k j)) x)), (5, .int (xSize (Y 5))), (6, .int (nI x))] → W p l e ({ frames := 7, cells := 0, slots := 0, locals := 168 } : Room) s m [.ref (a 0), .int (nI k)].toArray below meth c s.heap [] 0 0 (MQ below (vp_Si (fun r => r = (b2i true))) [.ref (a 0), .int (nI k)].toArray s 0 0 (fun _ => False)) (F0 m 21 ls []) := by
    intro r
    induction r with
    | zero => intro x hr9; exact absurd hr9 (Nat.not_lt_zero _)
    | succ r ih21 =>
      intro x hr9 hi ls hl
      refine lv_iload cx.1 cx.2.1 dL_name_21 (lv_at hl 6 rfl) ?_
      refine lv_iload_n cx.1 cx.2.1 dL_name_23 rfl (lv_at hl 2 rfl) ?_
      refine nv_icmp_ge (a := x) (b := xl (Y 5) k) (tgt := 329) cx dL_name_24 (by decide) (by omega) (by omega) (fun c_1 => ?_) (fun c_1 => ?_)
      · have ei : x = xl (Y 5) k := by omega
        subst ei
        have hl : lv_has ls 13 [(0, .ref (a 0)), (1, .int (nI k)), (2, .int (nI (xl (Y 5) k))), (3, .int (xU (Y 5) k)), (4, .int (xInk (Y 5) k)), (5, .int (xSize (Y 5))), (6, .int (nI (xl (Y 5) k)))] := hl
        refine lv_aload_n cx.1 cx.2.1 dL_name_329 rfl (lv_at hl 0 rfl) ?_
        refine lv_iconst (v := nI 3) cx.1 cx.2.1 dL_name_330 (by decide) ?_
        refine RO.callV (As := [.int 3]) (rest := []) cx (c_X6_count l G a AD Y 3 hok) gL_name_X6_count rfl hd_X6_count ⟨Nat.le_of_ble_eq_true rfl, Nat.le_of_ble_eq_true rfl⟩ (va_recv hK hP (ci := 5) (q0 := 0) rfl rfl) hK hN hP rfl hl.1 rfl (Nat.le_of_ble_eq_true rfl) dL_name_331 ⟨Nat.zero_le _, Nat.zero_le _⟩ ?_
        refine nv_eqi (y := Y 5 5 5) (ct3 Y) ?_
        refine lv_istore (lv' := [(6, .int (Y 5 5 5)), (0, .ref (a 0)), (1, .int (nI k)), (2, .int (nI (xl (Y 5) k))), (3, .int (xU (Y 5) k)), (4, .int (xInk (Y 5) k)), (5, .int (xSize (Y 5)))]) cx.1 cx.2.1 dL_name_334 hl (by decide) rfl (fun ls hl => ?_)
        refine lv_aload_n cx.1 cx.2.1 dL_name_336 rfl (lv_at hl 1 rfl) ?_
        refine lv_iconst (v := nI 0) cx.1 cx.2.1 dL_name_337 (by decide) ?_
        refine RO.callV (As := [.int 0]) (rest := []) cx (c_X6_count l G a AD Y 0 hok) gL_name_X6_count rfl hd_X6_count ⟨Nat.le_of_ble_eq_true rfl, Nat.le_of_ble_eq_true rfl⟩ (va_recv hK hP (ci := 5) (q0 := 0) rfl rfl) hK hN hP rfl hl.1 rfl (Nat.le_of_ble_eq_true rfl) dL_name_338 ⟨Nat.zero_le _, Nat.zero_le _⟩ ?_
        refine nv_eqi (y := Y 5 5 2) (ct0 Y) ?_
        refine lv_iconst (v := nI 2) cx.1 cx.2.1 dL_name_341 (by decide) ?_
        refine lv_aload_n cx.1 cx.2.1 dL_name_342 rfl (lv_at hl 1 rfl) ?_
        refine lv_iconst (v := nI 2) cx.1 cx.2.1 dL_name_343 (by decide) ?_
        refine RO.callV (As := [.int 2]) (rest := [.int (nI 2), .int (Y 5 5 2)]) cx (c_X6_count l G a AD Y 2 hok) gL_name_X6_count rfl hd_X6_count ⟨Nat.le_of_ble_eq_true rfl, Nat.le_of_ble_eq_true rfl⟩ (va_recv hK hP (ci := 5) (q0 := 0) rfl rfl) hK hN hP rfl hl.1 rfl (Nat.le_of_ble_eq_true rfl) dL_name_344 ⟨Nat.zero_le _, Nat.zero_le _⟩ ?_
        refine nv_eqi (y := Y 5 5 4) (ct2 Y) ?_
        refine lv_imul (x := 2) (y := Y 5 5 4) cx.1 cx.2.1 dL_name_347 ?_
        refine lv_isub (x := Y 5 5 2) (y := 2 * (Y 5 5 4)) cx.1 cx.2.1 dL_name_348 ?_
        refine lv_iload cx.1 cx.2.1 dL_name_349 (lv_at hl 0 rfl) ?_
        refine lv_idiv (x := (Y 5 5 2) - (2 * (Y 5 5 4))) (y := Y 5 5 5) cx.1 cx.2.1 dL_name_351 hcn ?_
        refine nv_eqi (y := xCw (Y 5) (Y 5 5 2)) (l_wide hRl) ?_
        refine lv_istore (lv' := [(7, .int (xCw (Y 5) (Y 5 5 2))), (6, .int (Y 5 5 5)), (0, .ref (a 0)), (1, .int (nI k)), (2, .int (nI (xl (Y 5) k))), (3, .int (xU (Y 5) k)), (4, .int (xInk (Y 5) k)), (5, .int (xSize (Y 5)))]) cx.1 cx.2.1 dL_name_352 hl (by decide) rfl (fun ls hl => ?_)
        refine lv_aload_n cx.1 cx.2.1 dL_name_354 rfl (lv_at hl 2 rfl) ?_
        refine lv_iconst (v := nI 2) cx.1 cx.2.1 dL_name_355 (by decide) ?_
        refine RO.callV (As := [.int 2]) (rest := []) cx (c_X6_count l G a AD Y 2 hok) gL_name_X6_count rfl hd_X6_count ⟨Nat.le_of_ble_eq_true rfl, Nat.le_of_ble_eq_true rfl⟩ (va_recv hK hP (ci := 5) (q0 := 0) rfl rfl) hK hN hP rfl hl.1 rfl (Nat.le_of_ble_eq_true rfl) dL_name_356 ⟨Nat.zero_le _, Nat.zero_le _⟩ ?_
        refine nv_eqi (y := Y 5 5 4) (ct2 Y) ?_
        refine lv_iload_n cx.1 cx.2.1 dL_name_359 rfl (lv_at hl 3 rfl) ?_
        refine lv_iload cx.1 cx.2.1 dL_name_360 (lv_at hl 1 rfl) ?_
        refine lv_irem (x := nI k) (y := Y 5 5 5) cx.1 cx.2.1 dL_name_362 hcn ?_
        refine nv_eqi (y := irem (nI k) (Y 5 5 5)) rfl ?_
        refine lv_iload cx.1 cx.2.1 dL_name_363 (lv_at hl 0 rfl) ?_
        refine lv_imul (x := irem (nI k) (Y 5 5 5)) (y := xCw (Y 5) (Y 5 5 2)) cx.1 cx.2.1 dL_name_365 ?_
        refine lv_iadd (x := Y 5 5 4) (y := (irem (nI k) (Y 5 5 5)) * (xCw (Y 5) (Y 5 5 2))) cx.1 cx.2.1 dL_name_366 ?_
        refine nv_eqi (y := xCb (Y 5) k) (l_left hRl k) ?_
        refine lv_istore (lv' := [(8, .int (xCb (Y 5) k)), (7, .int (xCw (Y 5) (Y 5 5 2))), (6, .int (Y 5 5 5)), (0, .ref (a 0)), (1, .int (nI k)), (2, .int (nI (xl (Y 5) k))), (3, .int (xU (Y 5) k)), (4, .int (xInk (Y 5) k)), (5, .int (xSize (Y 5)))]) cx.1 cx.2.1 dL_name_367 hl (by decide) rfl (fun ls hl => ?_)
        refine lv_iload cx.1 cx.2.1 dL_name_369 (lv_at hl 8 rfl) ?_
        have jn371 : ∀ (ls : Array Slot), lv_has ls 13 [(8, .int (xCb (Y 5) k)), (7, .int (xCw (Y 5) (Y 5 5 2))), (6, .int (Y 5 5 5)), (0, .ref (a 0)), (1, .int (nI k)), (2, .int (nI (xl (Y 5) k))), (3, .int (xU (Y 5) k)), (4, .int (xInk (Y 5) k)), (5, .int (xSize (Y 5)))] → W p l e ({ frames := 7, cells := 0, slots := 0, locals := 168 } : Room) s m [.ref (a 0), .int (nI k)].toArray below meth c s.heap [] 0 0 (MQ below (vp_Si (fun r => r = (b2i true))) [.ref (a 0), .int (nI k)].toArray s 0 0 (fun _ => False)) (F0 m 416 ls [.int (b2i (xFits (Y 5) k (xSize (Y 5))))]) := by
          intro  ls  hl
          refine lv_istore (lv' := [(9, .int (b2i (xFits (Y 5) k (xSize (Y 5))))), (8, .int (xCb (Y 5) k)), (7, .int (xCw (Y 5) (Y 5 5 2))), (6, .int (Y 5 5 5)), (0, .ref (a 0)), (1, .int (nI k)), (2, .int (nI (xl (Y 5) k))), (3, .int (xU (Y 5) k)), (4, .int (xInk (Y 5) k)), (5, .int (xSize (Y 5)))]) cx.1 cx.2.1 dL_name_416 hl (by decide) rfl (fun ls hl => ?_)
          refine lv_aload_n cx.1 cx.2.1 dL_name_418 rfl (lv_at hl 4 rfl) ?_
          refine lv_iload_n cx.1 cx.2.1 dL_name_419 rfl (lv_at hl 5 rfl) ?_
          refine lv_iconst (v := nI 1) cx.1 cx.2.1 dL_name_420 (by decide) ?_
          refine RO.callV (As := [.int (nI k), .int 1]) (rest := []) cx (c_X6_name l G a AD Y (nI k) 1 hok) gL_name_X6_name rfl hd_X6_name ⟨Nat.le_of_ble_eq_true rfl, Nat.le_of_ble_eq_true rfl⟩ (va_recv hK hP (ci := 5) (q0 := 0) rfl rfl) hK hN hP rfl hl.1 rfl (Nat.le_of_ble_eq_true rfl) dL_name_421 ⟨Nat.zero_le _, Nat.zero_le _⟩ ?_
          refine nv_eqi (y := xU (Y 5) k) (nm1 hok (by omega)) ?_
          refine lv_iload_n cx.1 cx.2.1 dL_name_424 rfl (lv_at hl 7 rfl) ?_
          refine lv_icmp_ne (x := xU (Y 5) k) (y := xU (Y 5) k) (tgt := 499) cx.1 cx.2.1 dL_name_425 (by decide) (fun c_2 => ?_) (fun c_2 => ?_)
          · exact absurd rfl c_2
          · refine lv_aload_n cx.1 cx.2.1 dL_name_428 rfl (lv_at hl 4 rfl) ?_
            refine lv_iload_n cx.1 cx.2.1 dL_name_429 rfl (lv_at hl 5 rfl) ?_
            refine lv_bipush (v := nI 10) cx.1 cx.2.1 dL_name_430 (by decide) ?_
            refine RO.callV (As := [.int (nI k), .int 10]) (rest := []) cx (c_X6_name l G a AD Y (nI k) 10 hok) gL_name_X6_name rfl hd_X6_name ⟨Nat.le_of_ble_eq_true rfl, Nat.le_of_ble_eq_true rfl⟩ (va_recv hK hP (ci := 5) (q0 := 0) rfl rfl) hK hN hP rfl hl.1 rfl (Nat.le_of_ble_eq_true rfl) dL_name_432 ⟨Nat.zero_le _, Nat.zero_le _⟩ ?_
            refine nv_eqi (y := xInk (Y 5) k) (nm10 hok (by omega)) ?_
            refine lv_iload cx.1 cx.2.1 dL_name_435 (lv_at hl 8 rfl) ?_
            refine lv_icmp_ne (x := xInk (Y 5) k) (y := xInk (Y 5) k) (tgt := 499) cx.1 cx.2.1 dL_name_437 (by decide) (fun c_3 => ?_) (fun c_3 => ?_)
            · exact absurd rfl c_3
            · refine lv_aload_n cx.1 cx.2.1 dL_name_440 rfl (lv_at hl 4 rfl) ?_
              refine lv_iload_n cx.1 cx.2.1 dL_name_441 rfl (lv_at hl 5 rfl) ?_
              refine lv_iconst (v := nI 3) cx.1 cx.2.1 dL_name_442 (by decide) ?_
              refine RO.callV (As := [.int (nI k), .int 3]) (rest := []) cx (c_X6_name l G a AD Y (nI k) 3 hok) gL_name_X6_name rfl hd_X6_name ⟨Nat.le_of_ble_eq_true rfl, Nat.le_of_ble_eq_true rfl⟩ (va_recv hK hP (ci := 5) (q0 := 0) rfl rfl) hK hN hP rfl hl.1 rfl (Nat.le_of_ble_eq_true rfl) dL_name_443 ⟨Nat.zero_le _, Nat.zero_le _⟩ ?_
              refine nv_eqi (y := xRow (Y 5) k) (nm3 hok (by omega)) ?_
              refine lv_iload_n cx.1 cx.2.1 dL_name_446 rfl (lv_at hl 5 rfl) ?_
              refine lv_iload cx.1 cx.2.1 dL_name_447 (lv_at hl 3 rfl) ?_
              refine lv_idiv (x := nI k) (y := Y 5 5 5) cx.1 cx.2.1 dL_name_449 hcn ?_
              refine nv_eqi (y := xRow (Y 5) k) (l_row hRl (by omega)) ?_
              refine lv_icmp_ne (x := xRow (Y 5) k) (y := xRow (Y 5) k) (tgt := 499) cx.1 cx.2.1 dL_name_450 (by decide) (fun c_4 => ?_) (fun c_4 => ?_)
              · exact absurd rfl c_4
              · refine lv_aload_n cx.1 cx.2.1 dL_name_453 rfl (lv_at hl 4 rfl) ?_
                refine lv_iload_n cx.1 cx.2.1 dL_name_454 rfl (lv_at hl 5 rfl) ?_
                refine lv_iconst (v := nI 4) cx.1 cx.2.1 dL_name_455 (by decide) ?_
                refine RO.callV (As := [.int (nI k), .int 4]) (rest := []) cx (c_X6_name l G a AD Y (nI k) 4 hok) gL_name_X6_name rfl hd_X6_name ⟨Nat.le_of_ble_eq_true rfl, Nat.le_of_ble_eq_true rfl⟩ (va_recv hK hP (ci := 5) (q0 := 0) rfl rfl) hK hN hP rfl hl.1 rfl (Nat.le_of_ble_eq_true rfl) dL_name_456 ⟨Nat.zero_le _, Nat.zero_le _⟩ ?_
                refine nv_eqi (y := xCo (Y 5) k) (nm4 hok (by omega)) ?_
                refine lv_iload_n cx.1 cx.2.1 dL_name_459 rfl (lv_at hl 5 rfl) ?_
                refine lv_iload cx.1 cx.2.1 dL_name_460 (lv_at hl 3 rfl) ?_
                refine lv_irem (x := nI k) (y := Y 5 5 5) cx.1 cx.2.1 dL_name_462 hcn ?_
                refine nv_eqi (y := irem (nI k) (Y 5 5 5)) rfl ?_
                refine nv_eqi (y := xCo (Y 5) k) (l_co hRl k) ?_
                refine lv_icmp_ne (x := xCo (Y 5) k) (y := xCo (Y 5) k) (tgt := 499) cx.1 cx.2.1 dL_name_463 (by decide) (fun c_5 => ?_) (fun c_5 => ?_)
                · exact absurd rfl c_5
                · refine lv_aload_n cx.1 cx.2.1 dL_name_466 rfl (lv_at hl 4 rfl) ?_
                  refine lv_iload_n cx.1 cx.2.1 dL_name_467 rfl (lv_at hl 5 rfl) ?_
                  refine lv_bipush (v := nI 7) cx.1 cx.2.1 dL_name_468 (by decide) ?_
                  refine RO.callV (As := [.int (nI k), .int 7]) (rest := []) cx (c_X6_name l G a AD Y (nI k) 7 hok) gL_name_X6_name rfl hd_X6_name ⟨Nat.le_of_ble_eq_true rfl, Nat.le_of_ble_eq_true rfl⟩ (va_recv hK hP (ci := 5) (q0 := 0) rfl rfl) hK hN hP rfl hl.1 rfl (Nat.le_of_ble_eq_true rfl) dL_name_470 ⟨Nat.zero_le _, Nat.zero_le _⟩ ?_
                  refine nv_eqi (y := b2i (xFits (Y 5) k (xSize (Y 5)))) (nm7 hok (by omega)) ?_
                  refine lv_iload cx.1 cx.2.1 dL_name_473 (lv_at hl 0 rfl) ?_
                  have jn475 : ∀ (ls : Array Slot), lv_has ls 13 [(9, .int (b2i (xFits (Y 5) k (xSize (Y 5))))), (8, .int (xCb (Y 5) k)), (7, .int (xCw (Y 5) (Y 5 5 2))), (6, .int (Y 5 5 5)), (0, .ref (a 0)), (1, .int (nI k)), (2, .int (nI (xl (Y 5) k))), (3, .int (xU (Y 5) k)), (4, .int (xInk (Y 5) k)), (5, .int (xSize (Y 5)))] → W p l e ({ frames := 7, cells := 0, slots := 0, locals := 168 } : Room) s m [.ref (a 0), .int (nI k)].toArray below meth c s.heap [] 0 0 (MQ below (vp_Si (fun r => r = (b2i true))) [.ref (a 0), .int (nI k)].toArray s 0 0 (fun _ => False)) (F0 m 483 ls [.int (b2i (xFits (Y 5) k (xSize (Y 5)))), .int (b2i (xFits (Y 5) k (xSize (Y 5))))]) := by
                    intro  ls  hl
                    refine lv_icmp_ne (x := b2i (xFits (Y 5) k (xSize (Y 5)))) (y := b2i (xFits (Y 5) k (xSize (Y 5)))) (tgt := 499) cx.1 cx.2.1 dL_name_483 (by decide) (fun c_6 => ?_) (fun c_6 => ?_)
                    · exact absurd rfl c_6
                    · refine lv_aload_n cx.1 cx.2.1 dL_name_486 rfl (lv_at hl 4 rfl) ?_
                      refine lv_iload_n cx.1 cx.2.1 dL_name_487 rfl (lv_at hl 5 rfl) ?_
                      refine lv_iload_n cx.1 cx.2.1 dL_name_488 rfl (lv_at hl 6 rfl) ?_
                      refine lv_iconst (v := nI 0) cx.1 cx.2.1 dL_name_489 (by decide) ?_
                      refine RO.callV (As := [.int (nI k), .int (nI (xl (Y 5) k)), .int 0]) (rest := []) cx (c_X6_sign l G a AD Y (nI k) (nI (xl (Y 5) k)) 0 hok) gL_name_X6_sign rfl hd_X6_sign ⟨Nat.le_of_ble_eq_true rfl, Nat.le_of_ble_eq_true rfl⟩ (va_recv hK hP (ci := 5) (q0 := 0) rfl rfl) hK hN hP rfl hl.1 rfl (Nat.le_of_ble_eq_true rfl) dL_name_490 ⟨Nat.zero_le _, Nat.zero_le _⟩ ?_
                      refine nv_eqi (y := (-1001)) (sgO hok hk 0) ?_
                      refine lv_sipush (v := (-1001)) cx.1 cx.2.1 dL_name_493 (by decide) ?_
                      refine lv_icmp_eq (x := (-1001)) (y := (-1001)) (tgt := 501) cx.1 cx.2.1 dL_name_496 (by decide) (fun c_7 => ?_) (fun c_7 => ?_)
                      · refine lv_iload cx.1 cx.2.1 dL_name_501 (lv_at hl 9 rfl) ?_
                        refine lv_if_ne (x := xSize (Y 5)) (tgt := 559) cx.1 cx.2.1 dL_name_503 (by decide) (fun c_8 => ?_) (fun c_8 => ?_)
                        · have hz3 : ¬ xSize (Y 5) = 0 := c_8
                          refine lv_aload_n cx.1 cx.2.1 dL_name_559 rfl (lv_at hl 4 rfl) ?_
                          refine lv_iload_n cx.1 cx.2.1 dL_name_560 rfl (lv_at hl 5 rfl) ?_
                          refine lv_iconst (v := nI 5) cx.1 cx.2.1 dL_name_561 (by decide) ?_
                          refine RO.callV (As := [.int (nI k), .int 5]) (rest := []) cx (c_X6_name l G a AD Y (nI k) 5 hok) gL_name_X6_name rfl hd_X6_name ⟨Nat.le_of_ble_eq_true rfl, Nat.le_of_ble_eq_true rfl⟩ (va_recv hK hP (ci := 5) (q0 := 0) rfl rfl) hK hN hP rfl hl.1 rfl (Nat.le_of_ble_eq_true rfl) dL_name_562 ⟨Nat.zero_le _, Nat.zero_le _⟩ ?_
                          refine nv_eqi (y := xBeg (Y 5) k (xSize (Y 5))) ((nm5 hok hk).trans (if_neg hz3)) ?_
                          refine lv_istore (lv' := [(10, .int (xBeg (Y 5) k (xSize (Y 5)))), (9, .int (b2i (xFits (Y 5) k (xSize (Y 5))))), (8, .int (xCb (Y 5) k)), (7, .int (xCw (Y 5) (Y 5 5 2))), (6, .int (Y 5 5 5)), (0, .ref (a 0)), (1, .int (nI k)), (2, .int (nI (xl (Y 5) k))), (3, .int (xU (Y 5) k)), (4, .int (xInk (Y 5) k)), (5, .int (xSize (Y 5)))]) cx.1 cx.2.1 dL_name_565 hl (by decide) rfl (fun ls hl => ?_)
                          refine lv_iconst (v := nI 2) cx.1 cx.2.1 dL_name_567 (by decide) ?_
                          refine lv_iload cx.1 cx.2.1 dL_name_568 (lv_at hl 2 rfl) ?_
                          refine lv_imul (x := 2) (y := xCb (Y 5) k) cx.1 cx.2.1 dL_name_570 ?_
                          refine lv_iload cx.1 cx.2.1 dL_name_571 (lv_at hl 3 rfl) ?_
                          refine lv_iadd (x := 2 * (xCb (Y 5) k)) (y := xCw (Y 5) (Y 5 5 2)) cx.1 cx.2.1 dL_name_573 ?_
                          refine lv_iload_n cx.1 cx.2.1 dL_name_574 rfl (lv_at hl 8 rfl) ?_
                          refine lv_iload cx.1 cx.2.1 dL_name_575 (lv_at hl 10 rfl) ?_
                          refine lv_imul (x := xU (Y 5) k) (y := xSize (Y 5)) cx.1 cx.2.1 dL_name_577 ?_
                          refine lv_isub (x := (2 * (xCb (Y 5) k)) + (xCw (Y 5) (Y 5 5 2))) (y := (xU (Y 5) k) * (xSize (Y 5))) cx.1 cx.2.1 dL_name_578 ?_
                          refine lv_iconst (v := nI 2) cx.1 cx.2.1 dL_name_579 (by decide) ?_
                          refine RO.callS (As := [.int (((2 * (xCb (Y 5) k)) + (xCw (Y 5) (Y 5 5 2))) - ((xU (Y 5) k) * (xSize (Y 5)))), .int 2]) (rest := []) cx (c_L_down l G (((2 * (xCb (Y 5) k)) + (xCw (Y 5) (Y 5 5 2))) - ((xU (Y 5) k) * (xSize (Y 5)))) 2 (by decide)) gL_name_L_down rfl hd_L_down ⟨Nat.le_of_ble_eq_true rfl, Nat.le_of_ble_eq_true rfl⟩ hK hN va_P.nil rfl hl.1 rfl (Nat.le_of_ble_eq_true rfl) dL_name_580 ⟨Nat.zero_le _, Nat.zero_le _⟩ ?_
                          refine nv_eqi (y := xMd (Y 5) k) (mid_e hRl hk) ?_
                          refine lv_istore (lv' := [(11, .int (xMd (Y 5) k)), (10, .int (xBeg (Y 5) k (xSize (Y 5)))), (9, .int (b2i (xFits (Y 5) k (xSize (Y 5))))), (8, .int (xCb (Y 5) k)), (7, .int (xCw (Y 5) (Y 5 5 2))), (6, .int (Y 5 5 5)), (0, .ref (a 0)), (1, .int (nI k)), (2, .int (nI (xl (Y 5) k))), (3, .int (xU (Y 5) k)), (4, .int (xInk (Y 5) k)), (5, .int (xSize (Y 5)))]) cx.1 cx.2.1 dL_name_583 hl (by decide) rfl (fun ls hl => ?_)
                          refine lv_iload cx.1 cx.2.1 dL_name_585 (lv_at hl 1 rfl) ?_
                          refine lv_iload cx.1 cx.2.1 dL_name_587 (lv_at hl 3 rfl) ?_
                          have jn589 : ∀ (ls : Array Slot), lv_has ls 13 [(11, .int (xMd (Y 5) k)), (10, .int (xBeg (Y 5) k (xSize (Y 5)))), (9, .int (b2i (xFits (Y 5) k (xSize (Y 5))))), (8, .int (xCb (Y 5) k)), (7, .int (xCw (Y 5) (Y 5 5 2))), (6, .int (Y 5 5 5)), (0, .ref (a 0)), (1, .int (nI k)), (2, .int (nI (xl (Y 5) k))), (3, .int (xU (Y 5) k)), (4, .int (xInk (Y 5) k)), (5, .int (xSize (Y 5)))] → W p l e ({ frames := 7, cells := 0, slots := 0, locals := 168 } : Room) s m [.ref (a 0), .int (nI k)].toArray below meth c s.heap [] 0 0 (MQ below (vp_Si (fun r => r = (b2i true))) [.ref (a 0), .int (nI k)].toArray s 0 0 (fun _ => False)) (F0 m 619 ls [.int (nI 1)]) := by
                            intro  ls  hl
                            refine lv_istore (lv' := [(12, .int (nI 1)), (11, .int (xMd (Y 5) k)), (10, .int (xBeg (Y 5) k (xSize (Y 5)))), (9, .int (b2i (xFits (Y 5) k (xSize (Y 5))))), (8, .int (xCb (Y 5) k)), (7, .int (xCw (Y 5) (Y 5 5 2))), (6, .int (Y 5 5 5)), (0, .ref (a 0)), (1, .int (nI k)), (2, .int (nI (xl (Y 5) k))), (3, .int (xU (Y 5) k)), (4, .int (xInk (Y 5) k)), (5, .int (xSize (Y 5)))]) cx.1 cx.2.1 dL_name_619 hl (by decide) rfl (fun ls hl => ?_)
                            refine lv_iload cx.1 cx.2.1 dL_name_621 (lv_at hl 0 rfl) ?_
                            refine nv_if_eq (a := 1) (tgt := 708) cx dL_name_623 (by decide) (by omega) (fun c_9 => ?_) (fun c_9 => ?_)
                            · exact absurd c_9 (by decide)
                            · refine lv_aload_n cx.1 cx.2.1 dL_name_626 rfl (lv_at hl 7 rfl) ?_
                              refine lv_iload_n cx.1 cx.2.1 dL_name_627 rfl (lv_at hl 8 rfl) ?_
                              refine lv_bipush (v := nI 6) cx.1 cx.2.1 dL_name_628 (by decide) ?_
                              refine RO.callV (As := [.int (nI k), .int 6]) (rest := []) cx (c_X6_name l G a AD Y (nI k) 6 hok) gL_name_X6_name rfl hd_X6_name ⟨Nat.le_of_ble_eq_true rfl, Nat.le_of_ble_eq_true rfl⟩ (va_recv hK hP (ci := 5) (q0 := 0) rfl rfl) hK hN hP rfl hl.1 rfl (Nat.le_of_ble_eq_true rfl) dL_name_630 ⟨Nat.zero_le _, Nat.zero_le _⟩ ?_
                              refine nv_eqi (y := xRb (Y 5) k (xSize (Y 5))) ((nm6 hok hk).trans (if_neg hz3)) ?_
                              refine lv_aload_n cx.1 cx.2.1 dL_name_633 rfl (lv_at hl 7 rfl) ?_
                              refine lv_iconst (v := nI 2) cx.1 cx.2.1 dL_name_634 (by decide) ?_
                              refine RO.callV (As := [.int 2]) (rest := [.int (xRb (Y 5) k (xSize (Y 5)))]) cx (c_X6_count l G a AD Y 2 hok) gL_name_X6_count rfl hd_X6_count ⟨Nat.le_of_ble_eq_true rfl, Nat.le_of_ble_eq_true rfl⟩ (va_recv hK hP (ci := 5) (q0 := 0) rfl rfl) hK hN hP rfl hl.1 rfl (Nat.le_of_ble_eq_true rfl) dL_name_635 ⟨Nat.zero_le _, Nat.zero_le _⟩ ?_
                              refine nv_eqi (y := Y 5 5 4) (ct2 Y) ?_
                              refine lv_bipush (v := nI 12) cx.1 cx.2.1 dL_name_638 (by decide) ?_
                              refine lv_iload cx.1 cx.2.1 dL_name_640 (lv_at hl 12 rfl) ?_
                              refine lv_imul (x := 12) (y := xSize (Y 5)) cx.1 cx.2.1 dL_name_642 ?_
                              refine lv_iload_n cx.1 cx.2.1 dL_name_643 rfl (lv_at hl 8 rfl) ?_
                              refine lv_iload cx.1 cx.2.1 dL_name_644 (lv_at hl 6 rfl) ?_
                              refine lv_idiv (x := nI k) (y := Y 5 5 5) cx.1 cx.2.1 dL_name_646 hcn ?_
                              refine nv_eqi (y := xRow (Y 5) k) (l_row hRl (by omega)) ?_
                              refine lv_imul (x := 12 * (xSize (Y 5))) (y := xRow (Y 5) k) cx.1 cx.2.1 dL_name_647 ?_
                              refine lv_iadd (x := Y 5 5 4) (y := (12 * (xSize (Y 5))) * (xRow (Y 5) k)) cx.1 cx.2.1 dL_name_648 ?_
                              refine nv_eqi (y := xRb (Y 5) k (xSize (Y 5))) rfl ?_
                              refine lv_icmp_ne (x := xRb (Y 5) k (xSize (Y 5))) (y := xRb (Y 5) k (xSize (Y 5))) (tgt := 708) cx.1 cx.2.1 dL_name_649 (by decide) (fun c_10 => ?_) (fun c_10 => ?_)
                              · exact absurd rfl c_10
                              · refine lv_aload_n cx.1 cx.2.1 dL_name_652 rfl (lv_at hl 7 rfl) ?_
                                refine lv_iload_n cx.1 cx.2.1 dL_name_653 rfl (lv_at hl 8 rfl) ?_
                                refine lv_bipush (v := nI 8) cx.1 cx.2.1 dL_name_654 (by decide) ?_
                                refine RO.callV (As := [.int (nI k), .int 8]) (rest := []) cx (c_X6_name l G a AD Y (nI k) 8 hok) gL_name_X6_name rfl hd_X6_name ⟨Nat.le_of_ble_eq_true rfl, Nat.le_of_ble_eq_true rfl⟩ (va_recv hK hP (ci := 5) (q0 := 0) rfl rfl) hK hN hP rfl hl.1 rfl (Nat.le_of_ble_eq_true rfl) dL_name_656 ⟨Nat.zero_le _, Nat.zero_le _⟩ ?_
                                refine nv_eqi (y := (xU (Y 5) k) * (xSize (Y 5))) ((nm8 hok hk).trans (if_neg hz3)) ?_
                                refine lv_iload_n cx.1 cx.2.1 dL_name_659 rfl (lv_at hl 10 rfl) ?_
                                refine lv_iload cx.1 cx.2.1 dL_name_660 (lv_at hl 12 rfl) ?_
                                refine lv_imul (x := xU (Y 5) k) (y := xSize (Y 5)) cx.1 cx.2.1 dL_name_662 ?_
                                refine lv_icmp_ne (x := (xU (Y 5) k) * (xSize (Y 5))) (y := (xU (Y 5) k) * (xSize (Y 5))) (tgt := 708) cx.1 cx.2.1 dL_name_663 (by decide) (fun c_11 => ?_) (fun c_11 => ?_)
                                · exact absurd rfl c_11
                                · refine lv_aload_n cx.1 cx.2.1 dL_name_666 rfl (lv_at hl 7 rfl) ?_
                                  refine lv_iload_n cx.1 cx.2.1 dL_name_667 rfl (lv_at hl 8 rfl) ?_
                                  refine lv_bipush (v := nI 9) cx.1 cx.2.1 dL_name_668 (by decide) ?_
                                  refine RO.callV (As := [.int (nI k), .int 9]) (rest := []) cx (c_X6_name l G a AD Y (nI k) 9 hok) gL_name_X6_name rfl hd_X6_name ⟨Nat.le_of_ble_eq_true rfl, Nat.le_of_ble_eq_true rfl⟩ (va_recv hK hP (ci := 5) (q0 := 0) rfl rfl) hK hN hP rfl hl.1 rfl (Nat.le_of_ble_eq_true rfl) dL_name_670 ⟨Nat.zero_le _, Nat.zero_le _⟩ ?_
                                  refine nv_eqi (y := xMid (Y 5) k (xSize (Y 5))) ((nm9 hok hk).trans (if_neg hz3)) ?_
                                  refine lv_iload cx.1 cx.2.1 dL_name_673 (lv_at hl 1 rfl) ?_
                                  refine lv_iload cx.1 cx.2.1 dL_name_675 (lv_at hl 4 rfl) ?_
                                  have jn677 : ∀ (ls : Array Slot), lv_has ls 13 [(12, .int (nI 1)), (11, .int (xMd (Y 5) k)), (10, .int (xBeg (Y 5) k (xSize (Y 5)))), (9, .int (b2i (xFits (Y 5) k (xSize (Y 5))))), (8, .int (xCb (Y 5) k)), (7, .int (xCw (Y 5) (Y 5 5 2))), (6, .int (Y 5 5 5)), (0, .ref (a 0)), (1, .int (nI k)), (2, .int (nI (xl (Y 5) k))), (3, .int (xU (Y 5) k)), (4, .int (xInk (Y 5) k)), (5, .int (xSize (Y 5)))] → W p l e ({ frames := 7, cells := 0, slots := 0, locals := 168 } : Room) s m [.ref (a 0), .int (nI k)].toArray below meth c s.heap [] 0 0 (MQ below (vp_Si (fun r => r = (b2i true))) [.ref (a 0), .int (nI k)].toArray s 0 0 (fun _ => False)) (F0 m 687 ls [.int (xMid (Y 5) k (xSize (Y 5))), .int (xMid (Y 5) k (xSize (Y 5)))]) := by
                                    intro  ls  hl
                                    refine lv_icmp_ne (x := xMid (Y 5) k (xSize (Y 5))) (y := xMid (Y 5) k (xSize (Y 5))) (tgt := 708) cx.1 cx.2.1 dL_name_687 (by decide) (fun c_12 => ?_) (fun c_12 => ?_)
                                    · exact absurd rfl c_12
                                    · refine lv_aload_n cx.1 cx.2.1 dL_name_690 rfl (lv_at hl 7 rfl) ?_
                                      refine lv_iload_n cx.1 cx.2.1 dL_name_691 rfl (lv_at hl 8 rfl) ?_
                                      refine lv_iconst (v := nI 2) cx.1 cx.2.1 dL_name_692 (by decide) ?_
                                      refine RO.callV (As := [.int (nI k), .int 2]) (rest := []) cx (c_X6_name l G a AD Y (nI k) 2 hok) gL_name_X6_name rfl hd_X6_name ⟨Nat.le_of_ble_eq_true rfl, Nat.le_of_ble_eq_true rfl⟩ (va_recv hK hP (ci := 5) (q0 := 0) rfl rfl) hK hN hP rfl hl.1 rfl (Nat.le_of_ble_eq_true rfl) dL_name_693 ⟨Nat.zero_le _, Nat.zero_le _⟩ ?_
                                      refine nv_eqi (y := b2i (xEb (Y 5) k)) (nm2 hok (by omega)) ?_
                                      refine nv_ifz (b := xEb (Y 5) k) (tgt := 704) cx dL_name_696 (by decide) (fun c_13 => ?_) (fun c_13 => ?_)
                                      · refine lv_iconst (v := nI 1) cx.1 cx.2.1 dL_name_704 (by decide) ?_
                                        refine lv_goto (tgt := 709) cx.1 cx.2.1 dL_name_705 (by decide) ?_
                                        exact RO.retz (b := true) (x := 1) cx hr hlocks dL_name_709 (by rfl) rfl
                                      · have c696 := c_13
                                        refine lv_iload cx.1 cx.2.1 dL_name_699 (lv_at hl 3 rfl) ?_
                                        refine nv_ifz (b := xFits (Y 5) k (xSize (Y 5))) (tgt := 708) cx dL_name_701 (by decide) (fun c_14 => ?_) (fun c_14 => ?_)
                                        · exact absurd (eb_fits hRl hv hk c696) (by rw [c_14]; decide)
                                        · refine lv_iconst (v := nI 1) cx.1 cx.2.1 dL_name_704 (by decide) ?_
                                          refine lv_goto (tgt := 709) cx.1 cx.2.1 dL_name_705 (by decide) ?_
                                          exact RO.retz (b := true) (x := 1) cx hr hlocks dL_name_709 (by rfl) rfl
                                  refine lv_icmp_ge (x := xMd (Y 5) k) (y := xCb (Y 5) k) (tgt := 685) cx.1 cx.2.1 dL_name_677 (by decide) (fun c_15 => ?_) (fun c_15 => ?_)
                                  · refine lv_iload cx.1 cx.2.1 dL_name_685 (lv_at hl 1 rfl) ?_
                                    refine nv_eqi (y := xMid (Y 5) k (xSize (Y 5))) (by first | exact mid_ge c_15 | exact mid_lt c_15) ?_
                                    exact jn677  ls  hl
                                  · refine lv_iload cx.1 cx.2.1 dL_name_680 (lv_at hl 4 rfl) ?_
                                    refine lv_goto (tgt := 687) cx.1 cx.2.1 dL_name_682 (by decide) ?_
                                    refine nv_eqi (y := xMid (Y 5) k (xSize (Y 5))) (by first | exact mid_ge c_15 | exact mid_lt c_15) ?_
                                    exact jn677  ls  hl
                          refine lv_icmp_lt (x := xBeg (Y 5) k (xSize (Y 5))) (y := xCb (Y 5) k) (tgt := 618) cx.1 cx.2.1 dL_name_589 (by decide) (fun c_16 => ?_) (fun c_16 => ?_)
                          · exact absurd c_16 (beg_ge hRl hk _)
                          · refine lv_iload cx.1 cx.2.1 dL_name_592 (lv_at hl 1 rfl) ?_
                            refine lv_iload_n cx.1 cx.2.1 dL_name_594 rfl (lv_at hl 9 rfl) ?_
                            refine lv_iload cx.1 cx.2.1 dL_name_595 (lv_at hl 11 rfl) ?_
                            refine lv_imul (x := xU (Y 5) k) (y := xSize (Y 5)) cx.1 cx.2.1 dL_name_597 ?_
                            refine lv_iadd (x := xBeg (Y 5) k (xSize (Y 5))) (y := (xU (Y 5) k) * (xSize (Y 5))) cx.1 cx.2.1 dL_name_598 ?_
                            refine lv_iload cx.1 cx.2.1 dL_name_599 (lv_at hl 3 rfl) ?_
                            refine lv_iload cx.1 cx.2.1 dL_name_601 (lv_at hl 4 rfl) ?_
                            refine lv_iadd (x := xCb (Y 5) k) (y := xCw (Y 5) (Y 5 5 2)) cx.1 cx.2.1 dL_name_603 ?_
                            refine lv_icmp_le (x := (xBeg (Y 5) k (xSize (Y 5))) + ((xU (Y 5) k) * (xSize (Y 5)))) (y := (xCb (Y 5) k) + (xCw (Y 5) (Y 5 5 2))) (tgt := 614) cx.1 cx.2.1 dL_name_604 (by decide) (fun c_17 => ?_) (fun c_17 => ?_)
                            · refine lv_iconst (v := nI 1) cx.1 cx.2.1 dL_name_614 (by decide) ?_
                              refine lv_goto (tgt := 619) cx.1 cx.2.1 dL_name_615 (by decide) ?_
                              exact jn589  ls  hl
                            · have c604 := c_17
                              refine lv_iload cx.1 cx.2.1 dL_name_607 (lv_at hl 1 rfl) ?_
                              refine lv_iload cx.1 cx.2.1 dL_name_609 (lv_at hl 3 rfl) ?_
                              refine lv_icmp_ne (x := xBeg (Y 5) k (xSize (Y 5))) (y := xCb (Y 5) k) (tgt := 618) cx.1 cx.2.1 dL_name_611 (by decide) (fun c_18 => ?_) (fun c_18 => ?_)
                              · exact absurd (beg_le hRl hk c604) c_18
                              · refine lv_iconst (v := nI 1) cx.1 cx.2.1 dL_name_614 (by decide) ?_
                                refine lv_goto (tgt := 619) cx.1 cx.2.1 dL_name_615 (by decide) ?_
                                exact jn589  ls  hl
                        · have hz2 : xSize (Y 5) = 0 := c_8
                          refine lv_aload_n cx.1 cx.2.1 dL_name_506 rfl (lv_at hl 4 rfl) ?_
                          refine lv_iload_n cx.1 cx.2.1 dL_name_507 rfl (lv_at hl 5 rfl) ?_
                          refine lv_iconst (v := nI 5) cx.1 cx.2.1 dL_name_508 (by decide) ?_
                          refine RO.callV (As := [.int (nI k), .int 5]) (rest := []) cx (c_X6_name l G a AD Y (nI k) 5 hok) gL_name_X6_name rfl hd_X6_name ⟨Nat.le_of_ble_eq_true rfl, Nat.le_of_ble_eq_true rfl⟩ (va_recv hK hP (ci := 5) (q0 := 0) rfl rfl) hK hN hP rfl hl.1 rfl (Nat.le_of_ble_eq_true rfl) dL_name_509 ⟨Nat.zero_le _, Nat.zero_le _⟩ ?_
                          refine nv_eqi (y := (-1005)) ((nm5 hok hk).trans (if_pos hz2)) ?_
                          refine lv_sipush (v := (-1005)) cx.1 cx.2.1 dL_name_512 (by decide) ?_
                          refine lv_icmp_ne (x := (-1005)) (y := (-1005)) (tgt := 557) cx.1 cx.2.1 dL_name_515 (by decide) (fun c_19 => ?_) (fun c_19 => ?_)
                          · exact absurd rfl c_19
                          · refine lv_aload_n cx.1 cx.2.1 dL_name_518 rfl (lv_at hl 4 rfl) ?_
                            refine lv_iload_n cx.1 cx.2.1 dL_name_519 rfl (lv_at hl 5 rfl) ?_
                            refine lv_bipush (v := nI 6) cx.1 cx.2.1 dL_name_520 (by decide) ?_
                            refine RO.callV (As := [.int (nI k), .int 6]) (rest := []) cx (c_X6_name l G a AD Y (nI k) 6 hok) gL_name_X6_name rfl hd_X6_name ⟨Nat.le_of_ble_eq_true rfl, Nat.le_of_ble_eq_true rfl⟩ (va_recv hK hP (ci := 5) (q0 := 0) rfl rfl) hK hN hP rfl hl.1 rfl (Nat.le_of_ble_eq_true rfl) dL_name_522 ⟨Nat.zero_le _, Nat.zero_le _⟩ ?_
                            refine nv_eqi (y := (-1005)) ((nm6 hok hk).trans (if_pos hz2)) ?_
                            refine lv_sipush (v := (-1005)) cx.1 cx.2.1 dL_name_525 (by decide) ?_
                            refine lv_icmp_ne (x := (-1005)) (y := (-1005)) (tgt := 557) cx.1 cx.2.1 dL_name_528 (by decide) (fun c_20 => ?_) (fun c_20 => ?_)
                            · exact absurd rfl c_20
                            · refine lv_aload_n cx.1 cx.2.1 dL_name_531 rfl (lv_at hl 4 rfl) ?_
                              refine lv_iload_n cx.1 cx.2.1 dL_name_532 rfl (lv_at hl 5 rfl) ?_
                              refine lv_bipush (v := nI 8) cx.1 cx.2.1 dL_name_533 (by decide) ?_
                              refine RO.callV (As := [.int (nI k), .int 8]) (rest := []) cx (c_X6_name l G a AD Y (nI k) 8 hok) gL_name_X6_name rfl hd_X6_name ⟨Nat.le_of_ble_eq_true rfl, Nat.le_of_ble_eq_true rfl⟩ (va_recv hK hP (ci := 5) (q0 := 0) rfl rfl) hK hN hP rfl hl.1 rfl (Nat.le_of_ble_eq_true rfl) dL_name_535 ⟨Nat.zero_le _, Nat.zero_le _⟩ ?_
                              refine nv_eqi (y := (-1005)) ((nm8 hok hk).trans (if_pos hz2)) ?_
                              refine lv_sipush (v := (-1005)) cx.1 cx.2.1 dL_name_538 (by decide) ?_
                              refine lv_icmp_ne (x := (-1005)) (y := (-1005)) (tgt := 557) cx.1 cx.2.1 dL_name_541 (by decide) (fun c_21 => ?_) (fun c_21 => ?_)
                              · exact absurd rfl c_21
                              · refine lv_aload_n cx.1 cx.2.1 dL_name_544 rfl (lv_at hl 4 rfl) ?_
                                refine lv_iload_n cx.1 cx.2.1 dL_name_545 rfl (lv_at hl 5 rfl) ?_
                                refine lv_iconst (v := nI 2) cx.1 cx.2.1 dL_name_546 (by decide) ?_
                                refine RO.callV (As := [.int (nI k), .int 2]) (rest := []) cx (c_X6_name l G a AD Y (nI k) 2 hok) gL_name_X6_name rfl hd_X6_name ⟨Nat.le_of_ble_eq_true rfl, Nat.le_of_ble_eq_true rfl⟩ (va_recv hK hP (ci := 5) (q0 := 0) rfl rfl) hK hN hP rfl hl.1 rfl (Nat.le_of_ble_eq_true rfl) dL_name_547 ⟨Nat.zero_le _, Nat.zero_le _⟩ ?_
                                refine nv_eqi (y := b2i (xEb (Y 5) k)) (nm2 hok (by omega)) ?_
                                refine nv_ifnz (b := xEb (Y 5) k) (tgt := 557) cx dL_name_550 (by decide) (fun c_22 => ?_) (fun c_22 => ?_)
                                · exact absurd hz2 (size_eb hRl hk c_22)
                                · refine lv_iconst (v := nI 1) cx.1 cx.2.1 dL_name_553 (by decide) ?_
                                  refine lv_goto (tgt := 558) cx.1 cx.2.1 dL_name_554 (by decide) ?_
                                  exact RO.retz (b := true) (x := 1) cx hr hlocks dL_name_558 (by rfl) rfl
                      · exact absurd rfl c_7
                  refine nv_ifz (b := xFits (Y 5) k (xSize (Y 5))) (tgt := 482) cx dL_name_475 (by decide) (fun c_23 => ?_) (fun c_23 => ?_)
                  · refine lv_iconst (v := nI 0) cx.1 cx.2.1 dL_name_482 (by decide) ?_
                    refine nv_eqi (y := b2i (xFits (Y 5) k (xSize (Y 5)))) (by rw [c_23]; rfl) ?_
                    exact jn475  ls  hl
                  · refine lv_iconst (v := nI 1) cx.1 cx.2.1 dL_name_478 (by decide) ?_
                    refine lv_goto (tgt := 483) cx.1 cx.2.1 dL_name_479 (by decide) ?_
                    refine nv_eqi (y := b2i (xFits (Y 5) k (xSize (Y 5)))) (by rw [c_23]; rfl) ?_
                    exact jn475  ls  hl
        refine lv_if_le (x := xSize (Y 5)) (tgt := 415) cx.1 cx.2.1 dL_name_371 (by decide) (fun c_24 => ?_) (fun c_24 => ?_)
        · refine lv_iconst (v := nI 0) cx.1 cx.2.1 dL_name_415 (by decide) ?_
          refine nv_eqi (y := b2i (xFits (Y 5) k (xSize (Y 5)))) (by first | (simp [xFits, b2i, c_1, c_24]; done) | (simp [xFits, b2i, c_1, c_24]; rfl)) ?_
          exact jn371  ls  hl
        · refine lv_iload_n cx.1 cx.2.1 dL_name_374 rfl (lv_at hl 6 rfl) ?_
          refine lv_iload cx.1 cx.2.1 dL_name_375 (lv_at hl 8 rfl) ?_
          refine lv_imul (x := xU (Y 5) k) (y := xSize (Y 5)) cx.1 cx.2.1 dL_name_377 ?_
          refine lv_iload cx.1 cx.2.1 dL_name_378 (lv_at hl 1 rfl) ?_
          refine lv_icmp_gt (x := (xU (Y 5) k) * (xSize (Y 5))) (y := xCw (Y 5) (Y 5 5 2)) (tgt := 415) cx.1 cx.2.1 dL_name_380 (by decide) (fun c_25 => ?_) (fun c_25 => ?_)
          · refine lv_iconst (v := nI 0) cx.1 cx.2.1 dL_name_415 (by decide) ?_
            refine nv_eqi (y := b2i (xFits (Y 5) k (xSize (Y 5)))) (by first | (simp [xFits, b2i, c_1, c_24, c_25]; done) | (simp [xFits, b2i, c_1, c_24, c_25]; rfl)) ?_
            exact jn371  ls  hl
          · refine lv_bipush (v := nI 12) cx.1 cx.2.1 dL_name_383 (by decide) ?_
            refine lv_iload cx.1 cx.2.1 dL_name_385 (lv_at hl 8 rfl) ?_
            refine lv_imul (x := 12) (y := xSize (Y 5)) cx.1 cx.2.1 dL_name_387 ?_
            refine lv_iload_n cx.1 cx.2.1 dL_name_388 rfl (lv_at hl 4 rfl) ?_
            refine lv_iload cx.1 cx.2.1 dL_name_389 (lv_at hl 2 rfl) ?_
            refine lv_idiv (x := nI k) (y := Y 5 5 5) cx.1 cx.2.1 dL_name_391 hcn ?_
            refine nv_eqi (y := xRow (Y 5) k) (l_row hRl (by omega)) ?_
            refine lv_iconst (v := nI 1) cx.1 cx.2.1 dL_name_392 (by decide) ?_
            refine lv_iadd (x := xRow (Y 5) k) (y := 1) cx.1 cx.2.1 dL_name_393 ?_
            refine lv_imul (x := 12 * (xSize (Y 5))) (y := (xRow (Y 5) k) + 1) cx.1 cx.2.1 dL_name_394 ?_
            refine lv_aload_n cx.1 cx.2.1 dL_name_395 rfl (lv_at hl 3 rfl) ?_
            refine lv_iconst (v := nI 1) cx.1 cx.2.1 dL_name_396 (by decide) ?_
            refine RO.callV (As := [.int 1]) (rest := [.int ((12 * (xSize (Y 5))) * ((xRow (Y 5) k) + 1))]) cx (c_X6_count l G a AD Y 1 hok) gL_name_X6_count rfl hd_X6_count ⟨Nat.le_of_ble_eq_true rfl, Nat.le_of_ble_eq_true rfl⟩ (va_recv hK hP (ci := 5) (q0 := 0) rfl rfl) hK hN hP rfl hl.1 rfl (Nat.le_of_ble_eq_true rfl) dL_name_397 ⟨Nat.zero_le _, Nat.zero_le _⟩ ?_
            refine nv_eqi (y := Y 5 5 3) (ct1 Y) ?_
            refine lv_iconst (v := nI 2) cx.1 cx.2.1 dL_name_400 (by decide) ?_
            refine lv_aload_n cx.1 cx.2.1 dL_name_401 rfl (lv_at hl 3 rfl) ?_
            refine lv_iconst (v := nI 2) cx.1 cx.2.1 dL_name_402 (by decide) ?_
            refine RO.callV (As := [.int 2]) (rest := [.int (nI 2), .int (Y 5 5 3), .int ((12 * (xSize (Y 5))) * ((xRow (Y 5) k) + 1))]) cx (c_X6_count l G a AD Y 2 hok) gL_name_X6_count rfl hd_X6_count ⟨Nat.le_of_ble_eq_true rfl, Nat.le_of_ble_eq_true rfl⟩ (va_recv hK hP (ci := 5) (q0 := 0) rfl rfl) hK hN hP rfl hl.1 rfl (Nat.le_of_ble_eq_true rfl) dL_name_403 ⟨Nat.zero_le _, Nat.zero_le _⟩ ?_
            refine nv_eqi (y := Y 5 5 4) (ct2 Y) ?_
            refine lv_imul (x := 2) (y := Y 5 5 4) cx.1 cx.2.1 dL_name_406 ?_
            refine lv_isub (x := Y 5 5 3) (y := 2 * (Y 5 5 4)) cx.1 cx.2.1 dL_name_407 ?_
            refine lv_icmp_gt (x := (12 * (xSize (Y 5))) * ((xRow (Y 5) k) + 1)) (y := (Y 5 5 3) - (2 * (Y 5 5 4))) (tgt := 415) cx.1 cx.2.1 dL_name_408 (by decide) (fun c_26 => ?_) (fun c_26 => ?_)
            · refine lv_iconst (v := nI 0) cx.1 cx.2.1 dL_name_415 (by decide) ?_
              refine nv_eqi (y := b2i (xFits (Y 5) k (xSize (Y 5)))) (by first | (simp [xFits, b2i, c_24, c_25, c_26]; done) | (simp [xFits, b2i, c_24, c_25, c_26]; rfl)) ?_
              exact jn371  ls  hl
            · refine lv_iconst (v := nI 1) cx.1 cx.2.1 dL_name_411 (by decide) ?_
              refine lv_goto (tgt := 416) cx.1 cx.2.1 dL_name_412 (by decide) ?_
              refine nv_eqi (y := b2i (xFits (Y 5) k (xSize (Y 5)))) (by first | (simp [xFits, b2i, c_24, c_25, c_26]; done) | (simp [xFits, b2i, c_24, c_25, c_26]; rfl)) ?_
              exact jn371  ls  hl
      · have hx : x < xl (Y 5) k := by omega
        rcases Nat.lt_or_ge (x + 1) (xl (Y 5) k) with hnl | hnl
        · have hx : x < xl (Y 5) k := by omega
          refine lv_aload_n cx.1 cx.2.1 dL_name_27 rfl (lv_at hl 0 rfl) ?_
          refine lv_iload_n cx.1 cx.2.1 dL_name_28 rfl (lv_at hl 1 rfl) ?_
          refine lv_iload cx.1 cx.2.1 dL_name_29 (lv_at hl 6 rfl) ?_
          refine lv_iconst (v := nI 0) cx.1 cx.2.1 dL_name_31 (by decide) ?_
          refine RO.callV (As := [.int (nI k), .int (nI x), .int 0]) (rest := []) cx (c_X6_sign l G a AD Y (nI k) (nI x) 0 hok) gL_name_X6_sign rfl hd_X6_sign ⟨Nat.le_of_ble_eq_true rfl, Nat.le_of_ble_eq_true rfl⟩ (va_recv hK hP (ci := 5) (q0 := 0) rfl rfl) hK hN hP rfl hl.1 rfl (Nat.le_of_ble_eq_true rfl) dL_name_32 ⟨Nat.zero_le _, Nat.zero_le _⟩ ?_
          refine nv_eqi (y := xSg (Y 5) k x) (sg0 hok (by omega) (by omega)) ?_
          refine lv_istore (lv' := [(7, .int (xSg (Y 5) k x)), (0, .ref (a 0)), (1, .int (nI k)), (2, .int (nI (xl (Y 5) k))), (3, .int (xUb (Y 5) k x)), (4, .int (sumI (fun j => xI (xSg (Y 5) k j)) x)), (5, .int (xSize (Y 5))), (6, .int (nI x))]) cx.1 cx.2.1 dL_name_35 hl (by decide) rfl (fun ls hl => ?_)
          refine lv_aload_n cx.1 cx.2.1 dL_name_37 rfl (lv_at hl 1 rfl) ?_
          refine lv_iload_n cx.1 cx.2.1 dL_name_38 rfl (lv_at hl 2 rfl) ?_
          refine lv_iload cx.1 cx.2.1 dL_name_39 (lv_at hl 7 rfl) ?_
          refine lv_iconst (v := nI 3) cx.1 cx.2.1 dL_name_41 (by decide) ?_
          refine RO.callV (As := [.int (nI k), .int (nI x), .int 3]) (rest := []) cx (c_X6_sign l G a AD Y (nI k) (nI x) 3 hok) gL_name_X6_sign rfl hd_X6_sign ⟨Nat.le_of_ble_eq_true rfl, Nat.le_of_ble_eq_true rfl⟩ (va_recv hK hP (ci := 5) (q0 := 0) rfl rfl) hK hN hP rfl hl.1 rfl (Nat.le_of_ble_eq_true rfl) dL_name_42 ⟨Nat.zero_le _, Nat.zero_le _⟩ ?_
          refine nv_eqi (y := xSp (Y 5) k x) ((sg3 hok hk hx).trans (if_neg (by omega))) ?_
          refine lv_istore (lv' := [(8, .int (xSp (Y 5) k x)), (7, .int (xSg (Y 5) k x)), (0, .ref (a 0)), (1, .int (nI k)), (2, .int (nI (xl (Y 5) k))), (3, .int (xUb (Y 5) k x)), (4, .int (sumI (fun j => xI (xSg (Y 5) k j)) x)), (5, .int (xSize (Y 5))), (6, .int (nI x))]) cx.1 cx.2.1 dL_name_45 hl (by decide) rfl (fun ls hl => ?_)
          refine lv_aload_n cx.1 cx.2.1 dL_name_47 rfl (lv_at hl 2 rfl) ?_
          refine lv_iload_n cx.1 cx.2.1 dL_name_48 rfl (lv_at hl 3 rfl) ?_
          refine lv_iload cx.1 cx.2.1 dL_name_49 (lv_at hl 8 rfl) ?_
          refine lv_iconst (v := nI 1) cx.1 cx.2.1 dL_name_51 (by decide) ?_
          refine RO.callV (As := [.int (nI k), .int (nI x), .int 1]) (rest := []) cx (c_X6_sign l G a AD Y (nI k) (nI x) 1 hok) gL_name_X6_sign rfl hd_X6_sign ⟨Nat.le_of_ble_eq_true rfl, Nat.le_of_ble_eq_true rfl⟩ (va_recv hK hP (ci := 5) (q0 := 0) rfl rfl) hK hN hP rfl hl.1 rfl (Nat.le_of_ble_eq_true rfl) dL_name_52 ⟨Nat.zero_le _, Nat.zero_le _⟩ ?_
          refine nv_eqi (y := xUb (Y 5) k x) (sg1 hok (by omega) (by omega)) ?_
          refine lv_iload_n cx.1 cx.2.1 dL_name_55 rfl (lv_at hl 5 rfl) ?_
          refine lv_icmp_ne (x := xUb (Y 5) k x) (y := xUb (Y 5) k x) (tgt := 88) cx.1 cx.2.1 dL_name_56 (by decide) (fun c_27 => ?_) (fun c_27 => ?_)
          · exact absurd rfl c_27
          · refine lv_iload cx.1 cx.2.1 dL_name_59 (lv_at hl 0 rfl) ?_
            refine lv_sipush (v := (-1005)) cx.1 cx.2.1 dL_name_61 (by decide) ?_
            refine lv_icmp_ne (x := xSp (Y 5) k x) (y := (-1005)) (tgt := 71) cx.1 cx.2.1 dL_name_64 (by decide) (fun c_28 => ?_) (fun c_28 => ?_)
            · refine lv_iconst (v := nI 0) cx.1 cx.2.1 dL_name_71 (by decide) ?_
              refine lv_iload cx.1 cx.2.1 dL_name_72 (lv_at hl 8 rfl) ?_
              refine lv_iload_n cx.1 cx.2.1 dL_name_74 rfl (lv_at hl 4 rfl) ?_
              refine lv_iconst (v := nI 1) cx.1 cx.2.1 dL_name_75 (by decide) ?_
              refine nv_isub cx (a := xl (Y 5) k) (b := 1) (by omega) dL_name_76 ?_
              refine nv_icmp_ne (a := x) (b := xl (Y 5) k - 1) (tgt := 84) cx dL_name_77 (by decide) (by omega) (by omega) (fun c_29 => ?_) (fun c_29 => ?_)
              · refine lv_iconst (v := nI 0) cx.1 cx.2.1 dL_name_84 (by decide) ?_
                refine nv_icmp_eq (a := 0) (b := 0) (tgt := 90) cx dL_name_85 (by decide) (by omega) (by omega) (fun c_30 => ?_) (fun c_30 => ?_)
                · refine lv_iload cx.1 cx.2.1 dL_name_90 (lv_at hl 8 rfl) ?_
                  have jn92 : ∀ (ls : Array Slot), lv_has ls 13 [(8, .int (xSp (Y 5) k x)), (7, .int (xSg (Y 5) k x)), (0, .ref (a 0)), (1, .int (nI k)), (2, .int (nI (xl (Y 5) k))), (3, .int (xUb (Y 5) k x)), (4, .int (sumI (fun j => xI (xSg (Y 5) k j)) x)), (5, .int (xSize (Y 5))), (6, .int (nI x))] → W p l e ({ frames := 7, cells := 0, slots := 0, locals := 168 } : Room) s m [.ref (a 0), .int (nI k)].toArray below meth c s.heap [] 0 0 (MQ below (vp_Si (fun r => r = (b2i true))) [.ref (a 0), .int (nI k)].toArray s 0 0 (fun _ => False)) (F0 m 138 ls []) := by
                    intro  ls  hl
                    refine lv_iload cx.1 cx.2.1 dL_name_138 (lv_at hl 6 rfl) ?_
                    refine lv_iload cx.1 cx.2.1 dL_name_140 (lv_at hl 1 rfl) ?_
                    refine lv_bipush (v := nI 45) cx.1 cx.2.1 dL_name_142 (by decide) ?_
                    have jn144 : ∀ (ls : Array Slot), lv_has ls 13 [(8, .int (xSp (Y 5) k x)), (7, .int (xSg (Y 5) k x)), (0, .ref (a 0)), (1, .int (nI k)), (2, .int (nI (xl (Y 5) k))), (3, .int (xUb (Y 5) k x)), (4, .int (sumI (fun j => xI (xSg (Y 5) k j)) x)), (5, .int (xSize (Y 5))), (6, .int (nI x))] → W p l e ({ frames := 7, cells := 0, slots := 0, locals := 168 } : Room) s m [.ref (a 0), .int (nI k)].toArray below meth c s.heap [] 0 0 (MQ below (vp_Si (fun r => r = (b2i true))) [.ref (a 0), .int (nI k)].toArray s 0 0 (fun _ => False)) (F0 m 173 ls [.int (xI (xSg (Y 5) k x)), .int (sumI (fun j => xI (xSg (Y 5) k j)) x)]) := by
                      intro  ls  hl
                      refine lv_iadd (x := sumI (fun j => xI (xSg (Y 5) k j)) x) (y := xI (xSg (Y 5) k x)) cx.1 cx.2.1 dL_name_173 ?_
                      refine lv_istore (lv' := [(4, .int ((sumI (fun j => xI (xSg (Y 5) k j)) x) + (xI (xSg (Y 5) k x)))), (8, .int (xSp (Y 5) k x)), (7, .int (xSg (Y 5) k x)), (0, .ref (a 0)), (1, .int (nI k)), (2, .int (nI (xl (Y 5) k))), (3, .int (xUb (Y 5) k x)), (5, .int (xSize (Y 5))), (6, .int (nI x))]) cx.1 cx.2.1 dL_name_174 hl (by decide) rfl (fun ls hl => ?_)
                      refine lv_iload_n cx.1 cx.2.1 dL_name_176 rfl (lv_at hl 6 rfl) ?_
                      refine lv_aload_n cx.1 cx.2.1 dL_name_177 rfl (lv_at hl 3 rfl) ?_
                      refine lv_iload_n cx.1 cx.2.1 dL_name_178 rfl (lv_at hl 4 rfl) ?_
                      refine lv_iload cx.1 cx.2.1 dL_name_179 (lv_at hl 8 rfl) ?_
                      refine lv_iconst (v := nI 2) cx.1 cx.2.1 dL_name_181 (by decide) ?_
                      refine RO.callV (As := [.int (nI k), .int (nI x), .int 2]) (rest := [.int (xUb (Y 5) k x)]) cx (c_X6_sign l G a AD Y (nI k) (nI x) 2 hok) gL_name_X6_sign rfl hd_X6_sign ⟨Nat.le_of_ble_eq_true rfl, Nat.le_of_ble_eq_true rfl⟩ (va_recv hK hP (ci := 5) (q0 := 0) rfl rfl) hK hN hP rfl hl.1 rfl (Nat.le_of_ble_eq_true rfl) dL_name_182 ⟨Nat.zero_le _, Nat.zero_le _⟩ ?_
                      refine nv_eqi (y := xW (xSg (Y 5) k x)) (sg2 hok (by omega) (by omega)) ?_
                      refine lv_iadd (x := xUb (Y 5) k x) (y := xW (xSg (Y 5) k x)) cx.1 cx.2.1 dL_name_185 ?_
                      refine lv_istore_n (lv' := [(3, .int ((xUb (Y 5) k x) + (xW (xSg (Y 5) k x)))), (4, .int ((sumI (fun j => xI (xSg (Y 5) k j)) x) + (xI (xSg (Y 5) k x)))), (8, .int (xSp (Y 5) k x)), (7, .int (xSg (Y 5) k x)), (0, .ref (a 0)), (1, .int (nI k)), (2, .int (nI (xl (Y 5) k))), (5, .int (xSize (Y 5))), (6, .int (nI x))]) cx.1 cx.2.1 dL_name_186 rfl hl (by decide) rfl (fun ls hl => ?_)
                      refine lv_iload cx.1 cx.2.1 dL_name_187 (lv_at hl 8 rfl) ?_
                      refine lv_iload_n cx.1 cx.2.1 dL_name_189 rfl (lv_at hl 6 rfl) ?_
                      refine lv_iconst (v := nI 1) cx.1 cx.2.1 dL_name_190 (by decide) ?_
                      refine nv_isub cx (a := xl (Y 5) k) (b := 1) (by omega) dL_name_191 ?_
                      refine nv_icmp_ge (a := x) (b := xl (Y 5) k - 1) (tgt := 323) cx dL_name_192 (by decide) (by omega) (by omega) (fun c_31 => ?_) (fun c_31 => ?_)
                      · exact absurd c_31 (by omega)
                      · refine lv_aload_n cx.1 cx.2.1 dL_name_195 rfl (lv_at hl 4 rfl) ?_
                        refine lv_iload_n cx.1 cx.2.1 dL_name_196 rfl (lv_at hl 5 rfl) ?_
                        refine lv_iload cx.1 cx.2.1 dL_name_197 (lv_at hl 8 rfl) ?_
                        refine lv_iconst (v := nI 1) cx.1 cx.2.1 dL_name_199 (by decide) ?_
                        refine nv_iadd cx (a := x) (b := 1) dL_name_200 ?_
                        refine lv_iconst (v := nI 0) cx.1 cx.2.1 dL_name_201 (by decide) ?_
                        refine RO.callV (As := [.int (nI k), .int (nI (x + 1)), .int 0]) (rest := []) cx (c_X6_sign l G a AD Y (nI k) (nI (x + 1)) 0 hok) gL_name_X6_sign rfl hd_X6_sign ⟨Nat.le_of_ble_eq_true rfl, Nat.le_of_ble_eq_true rfl⟩ (va_recv hK hP (ci := 5) (q0 := 0) rfl rfl) hK hN hP rfl hl.1 rfl (Nat.le_of_ble_eq_true rfl) dL_name_202 ⟨Nat.zero_le _, Nat.zero_le _⟩ ?_
                        refine nv_eqi (y := xSg (Y 5) k (x + 1)) (sg0 hok (by omega) (by omega)) ?_
                        refine lv_istore (lv' := [(9, .int (xSg (Y 5) k (x + 1))), (3, .int ((xUb (Y 5) k x) + (xW (xSg (Y 5) k x)))), (4, .int ((sumI (fun j => xI (xSg (Y 5) k j)) x) + (xI (xSg (Y 5) k x)))), (8, .int (xSp (Y 5) k x)), (7, .int (xSg (Y 5) k x)), (0, .ref (a 0)), (1, .int (nI k)), (2, .int (nI (xl (Y 5) k))), (5, .int (xSize (Y 5))), (6, .int (nI x))]) cx.1 cx.2.1 dL_name_205 hl (by decide) rfl (fun ls hl => ?_)
                        refine lv_iload cx.1 cx.2.1 dL_name_207 (lv_at hl 4 rfl) ?_
                        refine lv_bipush (v := nI 65) cx.1 cx.2.1 dL_name_209 (by decide) ?_
                        have jn211 : ∀ (ls : Array Slot), lv_has ls 13 [(9, .int (xSg (Y 5) k (x + 1))), (3, .int ((xUb (Y 5) k x) + (xW (xSg (Y 5) k x)))), (4, .int ((sumI (fun j => xI (xSg (Y 5) k j)) x) + (xI (xSg (Y 5) k x)))), (8, .int (xSp (Y 5) k x)), (7, .int (xSg (Y 5) k x)), (0, .ref (a 0)), (1, .int (nI k)), (2, .int (nI (xl (Y 5) k))), (5, .int (xSize (Y 5))), (6, .int (nI x))] → W p l e ({ frames := 7, cells := 0, slots := 0, locals := 168 } : Room) s m [.ref (a 0), .int (nI k)].toArray below meth c s.heap [] 0 0 (MQ below (vp_Si (fun r => r = (b2i true))) [.ref (a 0), .int (nI k)].toArray s 0 0 (fun _ => False)) (F0 m 225 ls [.int (xO (xSg (Y 5) k x))]) := by
                          intro  ls  hl
                          refine lv_iload cx.1 cx.2.1 dL_name_225 (lv_at hl 0 rfl) ?_
                          refine lv_bipush (v := nI 65) cx.1 cx.2.1 dL_name_227 (by decide) ?_
                          have jn229 : ∀ (ls : Array Slot), lv_has ls 13 [(9, .int (xSg (Y 5) k (x + 1))), (3, .int ((xUb (Y 5) k x) + (xW (xSg (Y 5) k x)))), (4, .int ((sumI (fun j => xI (xSg (Y 5) k j)) x) + (xI (xSg (Y 5) k x)))), (8, .int (xSp (Y 5) k x)), (7, .int (xSg (Y 5) k x)), (0, .ref (a 0)), (1, .int (nI k)), (2, .int (nI (xl (Y 5) k))), (5, .int (xSize (Y 5))), (6, .int (nI x))] → W p l e ({ frames := 7, cells := 0, slots := 0, locals := 168 } : Room) s m [.ref (a 0), .int (nI k)].toArray below meth c s.heap [] 0 0 (MQ below (vp_Si (fun r => r = (b2i true))) [.ref (a 0), .int (nI k)].toArray s 0 0 (fun _ => False)) (F0 m 243 ls [.int (xO (xSg (Y 5) k (x + 1))), .int (xO (xSg (Y 5) k x))]) := by
                            intro  ls  hl
                            refine lv_iadd (x := xO (xSg (Y 5) k x)) (y := xO (xSg (Y 5) k (x + 1))) cx.1 cx.2.1 dL_name_243 ?_
                            refine lv_istore (lv' := [(10, .int ((xO (xSg (Y 5) k x)) + (xO (xSg (Y 5) k (x + 1))))), (9, .int (xSg (Y 5) k (x + 1))), (3, .int ((xUb (Y 5) k x) + (xW (xSg (Y 5) k x)))), (4, .int ((sumI (fun j => xI (xSg (Y 5) k j)) x) + (xI (xSg (Y 5) k x)))), (8, .int (xSp (Y 5) k x)), (7, .int (xSg (Y 5) k x)), (0, .ref (a 0)), (1, .int (nI k)), (2, .int (nI (xl (Y 5) k))), (5, .int (xSize (Y 5))), (6, .int (nI x))]) cx.1 cx.2.1 dL_name_244 hl (by decide) rfl (fun ls hl => ?_)
                            refine lv_bipush (v := nI 6) cx.1 cx.2.1 dL_name_246 (by decide) ?_
                            refine lv_iload cx.1 cx.2.1 dL_name_248 (lv_at hl 0 rfl) ?_
                            refine lv_isub (x := 6) (y := (xO (xSg (Y 5) k x)) + (xO (xSg (Y 5) k (x + 1)))) cx.1 cx.2.1 dL_name_250 ?_
                            refine lv_aload_n cx.1 cx.2.1 dL_name_251 rfl (lv_at hl 6 rfl) ?_
                            refine lv_iload cx.1 cx.2.1 dL_name_252 (lv_at hl 5 rfl) ?_
                            refine lv_i2c (x := xSg (Y 5) k x) (v := i2c (xSg (Y 5) k x)) cx.1 cx.2.1 dL_name_254 rfl ?_
                            refine nv_eqi (y := (xSg (Y 5) k x)) (i2c_ok (sgc hok (by omega) (by omega))) ?_
                            refine lv_iload cx.1 cx.2.1 dL_name_255 (lv_at hl 1 rfl) ?_
                            refine lv_i2c (x := xSg (Y 5) k (x + 1)) (v := i2c (xSg (Y 5) k (x + 1))) cx.1 cx.2.1 dL_name_257 rfl ?_
                            refine nv_eqi (y := (xSg (Y 5) k (x + 1))) (i2c_ok (sgc hok (by omega) (by omega))) ?_
                            refine RO.callV (As := [.int (xSg (Y 5) k x), .int (xSg (Y 5) k (x + 1))]) (rest := [.int (6 - ((xO (xSg (Y 5) k x)) + (xO (xSg (Y 5) k (x + 1)))))]) cx (c_X6_adjustment l G a AD Y (xSg (Y 5) k x) (xSg (Y 5) k (x + 1)) hok) gL_name_X6_adjustment rfl hd_X6_adjustment ⟨Nat.le_of_ble_eq_true rfl, Nat.le_of_ble_eq_true rfl⟩ (va_recv hK hP (ci := 5) (q0 := 0) rfl rfl) hK hN hP rfl hl.1 rfl (Nat.le_of_ble_eq_true rfl) dL_name_258 ⟨Nat.zero_le _, Nat.zero_le _⟩ ?_
                            refine nv_eqi (y := xAdj (Y 5) (xSg (Y 5) k x) (xSg (Y 5) k (x + 1))) (adB (sok hRl hk (by omega)) (sok hRl hk (by omega))) ?_
                            refine lv_iadd (x := 6 - ((xO (xSg (Y 5) k x)) + (xO (xSg (Y 5) k (x + 1))))) (y := xAdj (Y 5) (xSg (Y 5) k x) (xSg (Y 5) k (x + 1))) cx.1 cx.2.1 dL_name_261 ?_
                            refine lv_istore (lv' := [(11, .int ((6 - ((xO (xSg (Y 5) k x)) + (xO (xSg (Y 5) k (x + 1))))) + (xAdj (Y 5) (xSg (Y 5) k x) (xSg (Y 5) k (x + 1))))), (10, .int ((xO (xSg (Y 5) k x)) + (xO (xSg (Y 5) k (x + 1))))), (9, .int (xSg (Y 5) k (x + 1))), (3, .int ((xUb (Y 5) k x) + (xW (xSg (Y 5) k x)))), (4, .int ((sumI (fun j => xI (xSg (Y 5) k j)) x) + (xI (xSg (Y 5) k x)))), (8, .int (xSp (Y 5) k x)), (7, .int (xSg (Y 5) k x)), (0, .ref (a 0)), (1, .int (nI k)), (2, .int (nI (xl (Y 5) k))), (5, .int (xSize (Y 5))), (6, .int (nI x))]) cx.1 cx.2.1 dL_name_262 hl (by decide) rfl (fun ls hl => ?_)
                            refine lv_iload cx.1 cx.2.1 dL_name_264 (lv_at hl 5 rfl) ?_
                            refine lv_iload cx.1 cx.2.1 dL_name_266 (lv_at hl 0 rfl) ?_
                            refine lv_iconst (v := nI 1) cx.1 cx.2.1 dL_name_268 (by decide) ?_
                            have jn269 : ∀ (ls : Array Slot), lv_has ls 13 [(11, .int ((6 - ((xO (xSg (Y 5) k x)) + (xO (xSg (Y 5) k (x + 1))))) + (xAdj (Y 5) (xSg (Y 5) k x) (xSg (Y 5) k (x + 1))))), (10, .int ((xO (xSg (Y 5) k x)) + (xO (xSg (Y 5) k (x + 1))))), (9, .int (xSg (Y 5) k (x + 1))), (3, .int ((xUb (Y 5) k x) + (xW (xSg (Y 5) k x)))), (4, .int ((sumI (fun j => xI (xSg (Y 5) k j)) x) + (xI (xSg (Y 5) k x)))), (8, .int (xSp (Y 5) k x)), (7, .int (xSg (Y 5) k x)), (0, .ref (a 0)), (1, .int (nI k)), (2, .int (nI (xl (Y 5) k))), (5, .int (xSize (Y 5))), (6, .int (nI x))] → W p l e ({ frames := 7, cells := 0, slots := 0, locals := 168 } : Room) s m [.ref (a 0), .int (nI k)].toArray below meth c s.heap [] 0 0 (MQ below (vp_Si (fun r => r = (b2i true))) [.ref (a 0), .int (nI k)].toArray s 0 0 (fun _ => False)) (F0 m 278 ls [.int (xSp (Y 5) k x), .int (xSp (Y 5) k x)]) := by
                              intro  ls  hl
                              refine lv_icmp_ne (x := xSp (Y 5) k x) (y := xSp (Y 5) k x) (tgt := 316) cx.1 cx.2.1 dL_name_278 (by decide) (fun c_32 => ?_) (fun c_32 => ?_)
                              · exact absurd rfl c_32
                              · refine lv_aload_n cx.1 cx.2.1 dL_name_281 rfl (lv_at hl 7 rfl) ?_
                                refine lv_iload_n cx.1 cx.2.1 dL_name_282 rfl (lv_at hl 8 rfl) ?_
                                refine lv_iload cx.1 cx.2.1 dL_name_283 (lv_at hl 11 rfl) ?_
                                refine lv_iconst (v := nI 4) cx.1 cx.2.1 dL_name_285 (by decide) ?_
                                refine RO.callV (As := [.int (nI k), .int (nI x), .int 4]) (rest := []) cx (c_X6_sign l G a AD Y (nI k) (nI x) 4 hok) gL_name_X6_sign rfl hd_X6_sign ⟨Nat.le_of_ble_eq_true rfl, Nat.le_of_ble_eq_true rfl⟩ (va_recv hK hP (ci := 5) (q0 := 0) rfl rfl) hK hN hP rfl hl.1 rfl (Nat.le_of_ble_eq_true rfl) dL_name_286 ⟨Nat.zero_le _, Nat.zero_le _⟩ ?_
                                refine nv_eqi (y := xMs (Y 5) k x) ((sg4 hok hk hx).trans (if_neg (by omega))) ?_
                                refine lv_iload cx.1 cx.2.1 dL_name_289 (lv_at hl 5 rfl) ?_
                                refine lv_iload cx.1 cx.2.1 dL_name_291 (lv_at hl 1 rfl) ?_
                                refine lv_iadd (x := xSp (Y 5) k x) (y := (xO (xSg (Y 5) k x)) + (xO (xSg (Y 5) k (x + 1)))) cx.1 cx.2.1 dL_name_293 ?_
                                refine nv_eqi (y := xMs (Y 5) k x) (ms_e (Y 5) k x) ?_
                                refine lv_icmp_ne (x := xMs (Y 5) k x) (y := xMs (Y 5) k x) (tgt := 316) cx.1 cx.2.1 dL_name_294 (by decide) (fun c_33 => ?_) (fun c_33 => ?_)
                                · exact absurd rfl c_33
                                · refine lv_iload cx.1 cx.2.1 dL_name_297 (lv_at hl 6 rfl) ?_
                                  refine lv_bipush (v := nI 65) cx.1 cx.2.1 dL_name_299 (by decide) ?_
                                  have jn301 : ∀ (ls : Array Slot), lv_has ls 13 [(11, .int ((6 - ((xO (xSg (Y 5) k x)) + (xO (xSg (Y 5) k (x + 1))))) + (xAdj (Y 5) (xSg (Y 5) k x) (xSg (Y 5) k (x + 1))))), (10, .int ((xO (xSg (Y 5) k x)) + (xO (xSg (Y 5) k (x + 1))))), (9, .int (xSg (Y 5) k (x + 1))), (3, .int ((xUb (Y 5) k x) + (xW (xSg (Y 5) k x)))), (4, .int ((sumI (fun j => xI (xSg (Y 5) k j)) x) + (xI (xSg (Y 5) k x)))), (8, .int (xSp (Y 5) k x)), (7, .int (xSg (Y 5) k x)), (0, .ref (a 0)), (1, .int (nI k)), (2, .int (nI (xl (Y 5) k))), (5, .int (xSize (Y 5))), (6, .int (nI x))] → W p l e ({ frames := 7, cells := 0, slots := 0, locals := 168 } : Room) s m [.ref (a 0), .int (nI k)].toArray below meth c s.heap [] 0 0 (MQ below (vp_Si (fun r => r = (b2i true))) [.ref (a 0), .int (nI k)].toArray s 0 0 (fun _ => False)) (F0 m 318 ls []) := by
                                    intro  ls  hl
                                    refine lv_iload_n cx.1 cx.2.1 dL_name_318 rfl (lv_at hl 3 rfl) ?_
                                    refine lv_iload cx.1 cx.2.1 dL_name_319 (lv_at hl 5 rfl) ?_
                                    refine lv_iadd (x := (xUb (Y 5) k x) + (xW (xSg (Y 5) k x))) (y := xSp (Y 5) k x) cx.1 cx.2.1 dL_name_321 ?_
                                    refine lv_istore_n (lv' := [(3, .int (((xUb (Y 5) k x) + (xW (xSg (Y 5) k x))) + (xSp (Y 5) k x))), (11, .int ((6 - ((xO (xSg (Y 5) k x)) + (xO (xSg (Y 5) k (x + 1))))) + (xAdj (Y 5) (xSg (Y 5) k x) (xSg (Y 5) k (x + 1))))), (10, .int ((xO (xSg (Y 5) k x)) + (xO (xSg (Y 5) k (x + 1))))), (9, .int (xSg (Y 5) k (x + 1))), (4, .int ((sumI (fun j => xI (xSg (Y 5) k j)) x) + (xI (xSg (Y 5) k x)))), (8, .int (xSp (Y 5) k x)), (7, .int (xSg (Y 5) k x)), (0, .ref (a 0)), (1, .int (nI k)), (2, .int (nI (xl (Y 5) k))), (5, .int (xSize (Y 5))), (6, .int (nI x))]) cx.1 cx.2.1 dL_name_322 rfl hl (by decide) rfl (fun ls hl => ?_)
                                    refine lv_iinc (v := nI (x + 1)) (lv' := [(6, .int (nI (x + 1))), (3, .int (((xUb (Y 5) k x) + (xW (xSg (Y 5) k x))) + (xSp (Y 5) k x))), (11, .int ((6 - ((xO (xSg (Y 5) k x)) + (xO (xSg (Y 5) k (x + 1))))) + (xAdj (Y 5) (xSg (Y 5) k x) (xSg (Y 5) k (x + 1))))), (10, .int ((xO (xSg (Y 5) k x)) + (xO (xSg (Y 5) k (x + 1))))), (9, .int (xSg (Y 5) k (x + 1))), (4, .int ((sumI (fun j => xI (xSg (Y 5) k j)) x) + (xI (xSg (Y 5) k x)))), (8, .int (xSp (Y 5) k x)), (7, .int (xSg (Y 5) k x)), (0, .ref (a 0)), (1, .int (nI k)), (2, .int (nI (xl (Y 5) k))), (5, .int (xSize (Y 5)))]) cx.1 cx.2.1 dL_name_323 hl (k := 11) rfl (show nI x + Int32.ofInt 1 = nI (x + 1) from nI_add x 1) (by decide) rfl (fun ls hl => ?_)
                                    refine lv_goto (tgt := 21) cx.1 cx.2.1 dL_name_326 (by decide) ?_
                                    have e3 : xUb (Y 5) k (x + 1) = ((xUb (Y 5) k x) + (xW (xSg (Y 5) k x))) + (xSp (Y 5) k x) := by first | exact ub_M _ _ _ | exact ub_L (by omega)
                                    exact ih21 (x + 1) (by omega) (by omega) ls (lv_sub hl [8, 9, 10, 1, 5, 11, 0] (by rw [e3]; rfl))
                                  refine lv_icmp_ge (x := xSg (Y 5) k x) (y := 65) (tgt := 318) cx.1 cx.2.1 dL_name_301 (by decide) (fun c_34 => ?_) (fun c_34 => ?_)
                                  · exact jn301  ls  hl
                                  · have h65 := c_34
                                    refine lv_iload cx.1 cx.2.1 dL_name_304 (lv_at hl 2 rfl) ?_
                                    refine lv_bipush (v := nI 65) cx.1 cx.2.1 dL_name_306 (by decide) ?_
                                    refine lv_icmp_lt (x := xSg (Y 5) k (x + 1)) (y := 65) (tgt := 316) cx.1 cx.2.1 dL_name_308 (by decide) (fun c_35 => ?_) (fun c_35 => ?_)
                                    · exact absurd (no_two hv hk (by omega) h65 c_35) (fun q => q)
                                    · refine lv_iload cx.1 cx.2.1 dL_name_311 (lv_at hl 11 rfl) ?_
                                      refine nv_if_ne (a := x) (tgt := 318) cx dL_name_313 (by decide) (by omega) (fun c_36 => ?_) (fun c_36 => ?_)
                                      · exact jn301  ls  hl
                                      · exact absurd (no_0 hv hk hx c_36 h65) (fun q => q)
                            refine lv_icmp_ge (x := (6 - ((xO (xSg (Y 5) k x)) + (xO (xSg (Y 5) k (x + 1))))) + (xAdj (Y 5) (xSg (Y 5) k x) (xSg (Y 5) k (x + 1)))) (y := 1) (tgt := 276) cx.1 cx.2.1 dL_name_269 (by decide) (fun c_37 => ?_) (fun c_37 => ?_)
                            · refine lv_iload cx.1 cx.2.1 dL_name_276 (lv_at hl 0 rfl) ?_
                              refine nv_eqi (y := xSp (Y 5) k x) (by first | exact ((sp_e (by omega)).trans (if_neg (Int32.not_lt.mpr c_37))).symm | exact ((sp_e (by omega)).trans (if_pos (Int32.not_le.mp c_37))).symm) ?_
                              exact jn269  ls  hl
                            · refine lv_iconst (v := nI 1) cx.1 cx.2.1 dL_name_272 (by decide) ?_
                              refine lv_goto (tgt := 278) cx.1 cx.2.1 dL_name_273 (by decide) ?_
                              refine nv_eqi (y := xSp (Y 5) k x) (by first | exact ((sp_e (by omega)).trans (if_neg (Int32.not_lt.mpr c_37))).symm | exact ((sp_e (by omega)).trans (if_pos (Int32.not_le.mp c_37))).symm) ?_
                              exact jn269  ls  hl
                          refine lv_icmp_ge (x := xSg (Y 5) k (x + 1)) (y := 65) (tgt := 236) cx.1 cx.2.1 dL_name_229 (by decide) (fun c_38 => ?_) (fun c_38 => ?_)
                          · refine lv_iload cx.1 cx.2.1 dL_name_236 (lv_at hl 0 rfl) ?_
                            refine lv_bipush (v := nI 65) cx.1 cx.2.1 dL_name_238 (by decide) ?_
                            refine lv_isub (x := xSg (Y 5) k (x + 1)) (y := 65) cx.1 cx.2.1 dL_name_240 ?_
                            refine lv_iconst (v := nI 3) cx.1 cx.2.1 dL_name_241 (by decide) ?_
                            refine lv_irem (x := (xSg (Y 5) k (x + 1)) - 65) (y := 3) cx.1 cx.2.1 dL_name_242 (by decide) ?_
                            refine nv_eqi (y := irem ((xSg (Y 5) k (x + 1)) - 65) 3) rfl ?_
                            refine nv_eqi (y := xO (xSg (Y 5) k (x + 1))) (by first | exact xO_ge c_38 | exact xO_lt (sok hRl hk (by omega)) c_38) ?_
                            exact jn229  ls  hl
                          · refine lv_iconst (v := nI 2) cx.1 cx.2.1 dL_name_232 (by decide) ?_
                            refine lv_goto (tgt := 243) cx.1 cx.2.1 dL_name_233 (by decide) ?_
                            refine nv_eqi (y := xO (xSg (Y 5) k (x + 1))) (by first | exact xO_ge c_38 | exact xO_lt (sok hRl hk (by omega)) c_38) ?_
                            exact jn229  ls  hl
                        refine lv_icmp_ge (x := xSg (Y 5) k x) (y := 65) (tgt := 218) cx.1 cx.2.1 dL_name_211 (by decide) (fun c_39 => ?_) (fun c_39 => ?_)
                        · refine lv_iload cx.1 cx.2.1 dL_name_218 (lv_at hl 4 rfl) ?_
                          refine lv_bipush (v := nI 65) cx.1 cx.2.1 dL_name_220 (by decide) ?_
                          refine lv_isub (x := xSg (Y 5) k x) (y := 65) cx.1 cx.2.1 dL_name_222 ?_
                          refine lv_iconst (v := nI 3) cx.1 cx.2.1 dL_name_223 (by decide) ?_
                          refine lv_irem (x := (xSg (Y 5) k x) - 65) (y := 3) cx.1 cx.2.1 dL_name_224 (by decide) ?_
                          refine nv_eqi (y := irem ((xSg (Y 5) k x) - 65) 3) rfl ?_
                          refine nv_eqi (y := xO (xSg (Y 5) k x)) (by first | exact xO_ge c_39 | exact xO_lt (sok hRl hk (by omega)) c_39) ?_
                          exact jn211  ls  hl
                        · refine lv_iconst (v := nI 2) cx.1 cx.2.1 dL_name_214 (by decide) ?_
                          refine lv_goto (tgt := 225) cx.1 cx.2.1 dL_name_215 (by decide) ?_
                          refine nv_eqi (y := xO (xSg (Y 5) k x)) (by first | exact xO_ge c_39 | exact xO_lt (sok hRl hk (by omega)) c_39) ?_
                          exact jn211  ls  hl
                    refine lv_icmp_ne (x := xSg (Y 5) k x) (y := 45) (tgt := 151) cx.1 cx.2.1 dL_name_144 (by decide) (fun c_40 => ?_) (fun c_40 => ?_)
                    · refine lv_iload cx.1 cx.2.1 dL_name_151 (lv_at hl 1 rfl) ?_
                      refine lv_bipush (v := nI 46) cx.1 cx.2.1 dL_name_153 (by decide) ?_
                      refine lv_icmp_ne (x := xSg (Y 5) k x) (y := 46) (tgt := 162) cx.1 cx.2.1 dL_name_155 (by decide) (fun c_41 => ?_) (fun c_41 => ?_)
                      · refine lv_iconst (v := nI 1) cx.1 cx.2.1 dL_name_162 (by decide) ?_
                        refine lv_iload cx.1 cx.2.1 dL_name_163 (lv_at hl 1 rfl) ?_
                        refine lv_bipush (v := nI 65) cx.1 cx.2.1 dL_name_165 (by decide) ?_
                        refine lv_isub (x := xSg (Y 5) k x) (y := 65) cx.1 cx.2.1 dL_name_167 ?_
                        refine lv_iconst (v := nI 3) cx.1 cx.2.1 dL_name_168 (by decide) ?_
                        refine lv_imul (x := (xSg (Y 5) k x) - 65) (y := 3) cx.1 cx.2.1 dL_name_169 ?_
                        refine lv_iconst (v := nI 5) cx.1 cx.2.1 dL_name_170 (by decide) ?_
                        refine lv_irem (x := ((xSg (Y 5) k x) - 65) * 3) (y := 5) cx.1 cx.2.1 dL_name_171 (by decide) ?_
                        refine nv_eqi (y := irem (((xSg (Y 5) k x) - 65) * 3) 5) rfl ?_
                        refine lv_iadd (x := 1) (y := irem (((xSg (Y 5) k x) - 65) * 3) 5) cx.1 cx.2.1 dL_name_172 ?_
                        refine nv_eqi (y := xI (xSg (Y 5) k x)) (by first | (rw [c_41]; rfl) | (unfold xI; rw [if_neg (by assumption), if_neg (by assumption)])) ?_
                        exact jn144  ls  hl
                      · refine lv_iconst (v := nI 1) cx.1 cx.2.1 dL_name_158 (by decide) ?_
                        refine lv_goto (tgt := 173) cx.1 cx.2.1 dL_name_159 (by decide) ?_
                        refine nv_eqi (y := xI (xSg (Y 5) k x)) (by first | (rw [c_41]; rfl) | (unfold xI; rw [if_neg (by assumption), if_neg (by assumption)])) ?_
                        exact jn144  ls  hl
                    · refine lv_iconst (v := nI 2) cx.1 cx.2.1 dL_name_147 (by decide) ?_
                      refine lv_goto (tgt := 173) cx.1 cx.2.1 dL_name_148 (by decide) ?_
                      refine nv_eqi (y := xI (xSg (Y 5) k x)) (by first | (rw [c_40]; rfl) | (unfold xI; rw [if_neg (by assumption), if_neg (by assumption)])) ?_
                      exact jn144  ls  hl
                  refine nv_if_eq (a := x) (tgt := 103) cx dL_name_92 (by decide) (by omega) (fun c_42 => ?_) (fun c_42 => ?_)
                  · refine lv_aload_n cx.1 cx.2.1 dL_name_103 rfl (lv_at hl 2 rfl) ?_
                    refine lv_iload_n cx.1 cx.2.1 dL_name_104 rfl (lv_at hl 3 rfl) ?_
                    refine lv_iload cx.1 cx.2.1 dL_name_105 (lv_at hl 8 rfl) ?_
                    refine lv_iconst (v := nI 5) cx.1 cx.2.1 dL_name_107 (by decide) ?_
                    refine RO.callV (As := [.int (nI k), .int (nI x), .int 5]) (rest := []) cx (c_X6_sign l G a AD Y (nI k) (nI x) 5 hok) gL_name_X6_sign rfl hd_X6_sign ⟨Nat.le_of_ble_eq_true rfl, Nat.le_of_ble_eq_true rfl⟩ (va_recv hK hP (ci := 5) (q0 := 0) rfl rfl) hK hN hP rfl hl.1 rfl (Nat.le_of_ble_eq_true rfl) dL_name_108 ⟨Nat.zero_le _, Nat.zero_le _⟩ ?_
                    refine nv_eqi (y := ySb (Y 5) k x (xSize (Y 5))) (sg5 hok (by omega) (by omega)) ?_
                    refine lv_iload cx.1 cx.2.1 dL_name_111 (lv_at hl 7 rfl) ?_
                    refine lv_if_ne (x := xSize (Y 5)) (tgt := 122) cx.1 cx.2.1 dL_name_113 (by decide) (fun c_43 => ?_) (fun c_43 => ?_)
                    · have hz1 : ¬ xSize (Y 5) = 0 := c_43
                      refine lv_aload_n cx.1 cx.2.1 dL_name_122 rfl (lv_at hl 2 rfl) ?_
                      refine lv_iload_n cx.1 cx.2.1 dL_name_123 rfl (lv_at hl 3 rfl) ?_
                      refine lv_iconst (v := nI 5) cx.1 cx.2.1 dL_name_124 (by decide) ?_
                      refine RO.callV (As := [.int (nI k), .int 5]) (rest := [.int (ySb (Y 5) k x (xSize (Y 5)))]) cx (c_X6_name l G a AD Y (nI k) 5 hok) gL_name_X6_name rfl hd_X6_name ⟨Nat.le_of_ble_eq_true rfl, Nat.le_of_ble_eq_true rfl⟩ (va_recv hK hP (ci := 5) (q0 := 0) rfl rfl) hK hN hP rfl hl.1 rfl (Nat.le_of_ble_eq_true rfl) dL_name_125 ⟨Nat.zero_le _, Nat.zero_le _⟩ ?_
                      refine nv_eqi (y := xBeg (Y 5) k (xSize (Y 5))) ((nm5 hok hk).trans (if_neg hz1)) ?_
                      refine lv_iload cx.1 cx.2.1 dL_name_128 (lv_at hl 7 rfl) ?_
                      refine lv_iload_n cx.1 cx.2.1 dL_name_130 rfl (lv_at hl 5 rfl) ?_
                      refine lv_imul (x := xSize (Y 5)) (y := xUb (Y 5) k x) cx.1 cx.2.1 dL_name_131 ?_
                      refine lv_iadd (x := xBeg (Y 5) k (xSize (Y 5))) (y := (xSize (Y 5)) * (xUb (Y 5) k x)) cx.1 cx.2.1 dL_name_132 ?_
                      refine lv_icmp_eq (x := ySb (Y 5) k x (xSize (Y 5))) (y := (xBeg (Y 5) k (xSize (Y 5))) + ((xSize (Y 5)) * (xUb (Y 5) k x))) (tgt := 138) cx.1 cx.2.1 dL_name_133 (by decide) (fun c_44 => ?_) (fun c_44 => ?_)
                      · exact jn92  ls  hl
                      · first | exact absurd (if_pos hz0) c_44 | exact absurd (by unfold ySb; rw [if_neg hz1, Int32.mul_comm]) c_44
                    · have hz0 : xSize (Y 5) = 0 := c_43
                      refine lv_sipush (v := (-1005)) cx.1 cx.2.1 dL_name_116 (by decide) ?_
                      refine lv_goto (tgt := 133) cx.1 cx.2.1 dL_name_119 (by decide) ?_
                      refine lv_icmp_eq (x := ySb (Y 5) k x (xSize (Y 5))) (y := (-1005)) (tgt := 138) cx.1 cx.2.1 dL_name_133 (by decide) (fun c_45 => ?_) (fun c_45 => ?_)
                      · exact jn92  ls  hl
                      · first | exact absurd (if_pos hz0) c_45 | exact absurd (by unfold ySb; rw [if_neg hz1, Int32.mul_comm]) c_45
                  · refine lv_iload cx.1 cx.2.1 dL_name_95 (lv_at hl 8 rfl) ?_
                    refine lv_iload_n cx.1 cx.2.1 dL_name_97 rfl (lv_at hl 4 rfl) ?_
                    refine lv_iconst (v := nI 1) cx.1 cx.2.1 dL_name_98 (by decide) ?_
                    refine nv_isub cx (a := xl (Y 5) k) (b := 1) (by omega) dL_name_99 ?_
                    refine nv_icmp_ne (a := x) (b := xl (Y 5) k - 1) (tgt := 138) cx dL_name_100 (by decide) (by omega) (by omega) (fun c_46 => ?_) (fun c_46 => ?_)
                    · exact jn92  ls  hl
                    · exact absurd c_46 (by omega)
                · exact absurd c_30 (by decide)
              · exact absurd c_29 (by omega)
            · exact absurd c_28 (sp_ne (by omega))
        · have hx : x < xl (Y 5) k := by omega
          refine lv_aload_n cx.1 cx.2.1 dL_name_27 rfl (lv_at hl 0 rfl) ?_
          refine lv_iload_n cx.1 cx.2.1 dL_name_28 rfl (lv_at hl 1 rfl) ?_
          refine lv_iload cx.1 cx.2.1 dL_name_29 (lv_at hl 6 rfl) ?_
          refine lv_iconst (v := nI 0) cx.1 cx.2.1 dL_name_31 (by decide) ?_
          refine RO.callV (As := [.int (nI k), .int (nI x), .int 0]) (rest := []) cx (c_X6_sign l G a AD Y (nI k) (nI x) 0 hok) gL_name_X6_sign rfl hd_X6_sign ⟨Nat.le_of_ble_eq_true rfl, Nat.le_of_ble_eq_true rfl⟩ (va_recv hK hP (ci := 5) (q0 := 0) rfl rfl) hK hN hP rfl hl.1 rfl (Nat.le_of_ble_eq_true rfl) dL_name_32 ⟨Nat.zero_le _, Nat.zero_le _⟩ ?_
          refine nv_eqi (y := xSg (Y 5) k x) (sg0 hok (by omega) (by omega)) ?_
          refine lv_istore (lv' := [(7, .int (xSg (Y 5) k x)), (0, .ref (a 0)), (1, .int (nI k)), (2, .int (nI (xl (Y 5) k))), (3, .int (xUb (Y 5) k x)), (4, .int (sumI (fun j => xI (xSg (Y 5) k j)) x)), (5, .int (xSize (Y 5))), (6, .int (nI x))]) cx.1 cx.2.1 dL_name_35 hl (by decide) rfl (fun ls hl => ?_)
          refine lv_aload_n cx.1 cx.2.1 dL_name_37 rfl (lv_at hl 1 rfl) ?_
          refine lv_iload_n cx.1 cx.2.1 dL_name_38 rfl (lv_at hl 2 rfl) ?_
          refine lv_iload cx.1 cx.2.1 dL_name_39 (lv_at hl 7 rfl) ?_
          refine lv_iconst (v := nI 3) cx.1 cx.2.1 dL_name_41 (by decide) ?_
          refine RO.callV (As := [.int (nI k), .int (nI x), .int 3]) (rest := []) cx (c_X6_sign l G a AD Y (nI k) (nI x) 3 hok) gL_name_X6_sign rfl hd_X6_sign ⟨Nat.le_of_ble_eq_true rfl, Nat.le_of_ble_eq_true rfl⟩ (va_recv hK hP (ci := 5) (q0 := 0) rfl rfl) hK hN hP rfl hl.1 rfl (Nat.le_of_ble_eq_true rfl) dL_name_42 ⟨Nat.zero_le _, Nat.zero_le _⟩ ?_
          refine nv_eqi (y := (-1005)) ((sg3 hok hk hx).trans (if_pos (by omega))) ?_
          refine lv_istore (lv' := [(8, .int (-1005)), (7, .int (xSg (Y 5) k x)), (0, .ref (a 0)), (1, .int (nI k)), (2, .int (nI (xl (Y 5) k))), (3, .int (xUb (Y 5) k x)), (4, .int (sumI (fun j => xI (xSg (Y 5) k j)) x)), (5, .int (xSize (Y 5))), (6, .int (nI x))]) cx.1 cx.2.1 dL_name_45 hl (by decide) rfl (fun ls hl => ?_)
          refine lv_aload_n cx.1 cx.2.1 dL_name_47 rfl (lv_at hl 2 rfl) ?_
          refine lv_iload_n cx.1 cx.2.1 dL_name_48 rfl (lv_at hl 3 rfl) ?_
          refine lv_iload cx.1 cx.2.1 dL_name_49 (lv_at hl 8 rfl) ?_
          refine lv_iconst (v := nI 1) cx.1 cx.2.1 dL_name_51 (by decide) ?_
          refine RO.callV (As := [.int (nI k), .int (nI x), .int 1]) (rest := []) cx (c_X6_sign l G a AD Y (nI k) (nI x) 1 hok) gL_name_X6_sign rfl hd_X6_sign ⟨Nat.le_of_ble_eq_true rfl, Nat.le_of_ble_eq_true rfl⟩ (va_recv hK hP (ci := 5) (q0 := 0) rfl rfl) hK hN hP rfl hl.1 rfl (Nat.le_of_ble_eq_true rfl) dL_name_52 ⟨Nat.zero_le _, Nat.zero_le _⟩ ?_
          refine nv_eqi (y := xUb (Y 5) k x) (sg1 hok (by omega) (by omega)) ?_
          refine lv_iload_n cx.1 cx.2.1 dL_name_55 rfl (lv_at hl 5 rfl) ?_
          refine lv_icmp_ne (x := xUb (Y 5) k x) (y := xUb (Y 5) k x) (tgt := 88) cx.1 cx.2.1 dL_name_56 (by decide) (fun c_47 => ?_) (fun c_47 => ?_)
          · exact absurd rfl c_47
          · refine lv_iload cx.1 cx.2.1 dL_name_59 (lv_at hl 0 rfl) ?_
            refine lv_sipush (v := (-1005)) cx.1 cx.2.1 dL_name_61 (by decide) ?_
            refine lv_icmp_ne (x := (-1005)) (y := (-1005)) (tgt := 71) cx.1 cx.2.1 dL_name_64 (by decide) (fun c_48 => ?_) (fun c_48 => ?_)
            · exact absurd rfl c_48
            · refine lv_iconst (v := nI 1) cx.1 cx.2.1 dL_name_67 (by decide) ?_
              refine lv_goto (tgt := 72) cx.1 cx.2.1 dL_name_68 (by decide) ?_
              refine lv_iload cx.1 cx.2.1 dL_name_72 (lv_at hl 8 rfl) ?_
              refine lv_iload_n cx.1 cx.2.1 dL_name_74 rfl (lv_at hl 4 rfl) ?_
              refine lv_iconst (v := nI 1) cx.1 cx.2.1 dL_name_75 (by decide) ?_
              refine nv_isub cx (a := xl (Y 5) k) (b := 1) (by omega) dL_name_76 ?_
              refine nv_icmp_ne (a := x) (b := xl (Y 5) k - 1) (tgt := 84) cx dL_name_77 (by decide) (by omega) (by omega) (fun c_49 => ?_) (fun c_49 => ?_)
              · exact absurd c_49 (by omega)
              · refine lv_iconst (v := nI 1) cx.1 cx.2.1 dL_name_80 (by decide) ?_
                refine lv_goto (tgt := 85) cx.1 cx.2.1 dL_name_81 (by decide) ?_
                refine nv_icmp_eq (a := 1) (b := 1) (tgt := 90) cx dL_name_85 (by decide) (by omega) (by omega) (fun c_50 => ?_) (fun c_50 => ?_)
                · refine lv_iload cx.1 cx.2.1 dL_name_90 (lv_at hl 8 rfl) ?_
                  have jn92 : ∀ (ls : Array Slot), lv_has ls 13 [(8, .int (-1005)), (7, .int (xSg (Y 5) k x)), (0, .ref (a 0)), (1, .int (nI k)), (2, .int (nI (xl (Y 5) k))), (3, .int (xUb (Y 5) k x)), (4, .int (sumI (fun j => xI (xSg (Y 5) k j)) x)), (5, .int (xSize (Y 5))), (6, .int (nI x))] → W p l e ({ frames := 7, cells := 0, slots := 0, locals := 168 } : Room) s m [.ref (a 0), .int (nI k)].toArray below meth c s.heap [] 0 0 (MQ below (vp_Si (fun r => r = (b2i true))) [.ref (a 0), .int (nI k)].toArray s 0 0 (fun _ => False)) (F0 m 138 ls []) := by
                    intro  ls  hl
                    refine lv_iload cx.1 cx.2.1 dL_name_138 (lv_at hl 6 rfl) ?_
                    refine lv_iload cx.1 cx.2.1 dL_name_140 (lv_at hl 1 rfl) ?_
                    refine lv_bipush (v := nI 45) cx.1 cx.2.1 dL_name_142 (by decide) ?_
                    have jn144 : ∀ (ls : Array Slot), lv_has ls 13 [(8, .int (-1005)), (7, .int (xSg (Y 5) k x)), (0, .ref (a 0)), (1, .int (nI k)), (2, .int (nI (xl (Y 5) k))), (3, .int (xUb (Y 5) k x)), (4, .int (sumI (fun j => xI (xSg (Y 5) k j)) x)), (5, .int (xSize (Y 5))), (6, .int (nI x))] → W p l e ({ frames := 7, cells := 0, slots := 0, locals := 168 } : Room) s m [.ref (a 0), .int (nI k)].toArray below meth c s.heap [] 0 0 (MQ below (vp_Si (fun r => r = (b2i true))) [.ref (a 0), .int (nI k)].toArray s 0 0 (fun _ => False)) (F0 m 173 ls [.int (xI (xSg (Y 5) k x)), .int (sumI (fun j => xI (xSg (Y 5) k j)) x)]) := by
                      intro  ls  hl
                      refine lv_iadd (x := sumI (fun j => xI (xSg (Y 5) k j)) x) (y := xI (xSg (Y 5) k x)) cx.1 cx.2.1 dL_name_173 ?_
                      refine lv_istore (lv' := [(4, .int ((sumI (fun j => xI (xSg (Y 5) k j)) x) + (xI (xSg (Y 5) k x)))), (8, .int (-1005)), (7, .int (xSg (Y 5) k x)), (0, .ref (a 0)), (1, .int (nI k)), (2, .int (nI (xl (Y 5) k))), (3, .int (xUb (Y 5) k x)), (5, .int (xSize (Y 5))), (6, .int (nI x))]) cx.1 cx.2.1 dL_name_174 hl (by decide) rfl (fun ls hl => ?_)
                      refine lv_iload_n cx.1 cx.2.1 dL_name_176 rfl (lv_at hl 6 rfl) ?_
                      refine lv_aload_n cx.1 cx.2.1 dL_name_177 rfl (lv_at hl 3 rfl) ?_
                      refine lv_iload_n cx.1 cx.2.1 dL_name_178 rfl (lv_at hl 4 rfl) ?_
                      refine lv_iload cx.1 cx.2.1 dL_name_179 (lv_at hl 8 rfl) ?_
                      refine lv_iconst (v := nI 2) cx.1 cx.2.1 dL_name_181 (by decide) ?_
                      refine RO.callV (As := [.int (nI k), .int (nI x), .int 2]) (rest := [.int (xUb (Y 5) k x)]) cx (c_X6_sign l G a AD Y (nI k) (nI x) 2 hok) gL_name_X6_sign rfl hd_X6_sign ⟨Nat.le_of_ble_eq_true rfl, Nat.le_of_ble_eq_true rfl⟩ (va_recv hK hP (ci := 5) (q0 := 0) rfl rfl) hK hN hP rfl hl.1 rfl (Nat.le_of_ble_eq_true rfl) dL_name_182 ⟨Nat.zero_le _, Nat.zero_le _⟩ ?_
                      refine nv_eqi (y := xW (xSg (Y 5) k x)) (sg2 hok (by omega) (by omega)) ?_
                      refine lv_iadd (x := xUb (Y 5) k x) (y := xW (xSg (Y 5) k x)) cx.1 cx.2.1 dL_name_185 ?_
                      refine lv_istore_n (lv' := [(3, .int ((xUb (Y 5) k x) + (xW (xSg (Y 5) k x)))), (4, .int ((sumI (fun j => xI (xSg (Y 5) k j)) x) + (xI (xSg (Y 5) k x)))), (8, .int (-1005)), (7, .int (xSg (Y 5) k x)), (0, .ref (a 0)), (1, .int (nI k)), (2, .int (nI (xl (Y 5) k))), (5, .int (xSize (Y 5))), (6, .int (nI x))]) cx.1 cx.2.1 dL_name_186 rfl hl (by decide) rfl (fun ls hl => ?_)
                      refine lv_iload cx.1 cx.2.1 dL_name_187 (lv_at hl 8 rfl) ?_
                      refine lv_iload_n cx.1 cx.2.1 dL_name_189 rfl (lv_at hl 6 rfl) ?_
                      refine lv_iconst (v := nI 1) cx.1 cx.2.1 dL_name_190 (by decide) ?_
                      refine nv_isub cx (a := xl (Y 5) k) (b := 1) (by omega) dL_name_191 ?_
                      refine nv_icmp_ge (a := x) (b := xl (Y 5) k - 1) (tgt := 323) cx dL_name_192 (by decide) (by omega) (by omega) (fun c_51 => ?_) (fun c_51 => ?_)
                      · refine lv_iinc (v := nI (x + 1)) (lv' := [(6, .int (nI (x + 1))), (3, .int ((xUb (Y 5) k x) + (xW (xSg (Y 5) k x)))), (4, .int ((sumI (fun j => xI (xSg (Y 5) k j)) x) + (xI (xSg (Y 5) k x)))), (8, .int (-1005)), (7, .int (xSg (Y 5) k x)), (0, .ref (a 0)), (1, .int (nI k)), (2, .int (nI (xl (Y 5) k))), (5, .int (xSize (Y 5)))]) cx.1 cx.2.1 dL_name_323 hl (k := 8) rfl (show nI x + Int32.ofInt 1 = nI (x + 1) from nI_add x 1) (by decide) rfl (fun ls hl => ?_)
                        refine lv_goto (tgt := 21) cx.1 cx.2.1 dL_name_326 (by decide) ?_
                        have e3 : xUb (Y 5) k (x + 1) = (xUb (Y 5) k x) + (xW (xSg (Y 5) k x)) := by first | exact ub_M _ _ _ | exact ub_L (by omega)
                        exact ih21 (x + 1) (by omega) (by omega) ls (lv_sub hl [5, 6, 7, 1, 2, 8, 0] (by rw [e3]; rfl))
                      · exact absurd c_51 (by omega)
                    refine lv_icmp_ne (x := xSg (Y 5) k x) (y := 45) (tgt := 151) cx.1 cx.2.1 dL_name_144 (by decide) (fun c_52 => ?_) (fun c_52 => ?_)
                    · refine lv_iload cx.1 cx.2.1 dL_name_151 (lv_at hl 1 rfl) ?_
                      refine lv_bipush (v := nI 46) cx.1 cx.2.1 dL_name_153 (by decide) ?_
                      refine lv_icmp_ne (x := xSg (Y 5) k x) (y := 46) (tgt := 162) cx.1 cx.2.1 dL_name_155 (by decide) (fun c_53 => ?_) (fun c_53 => ?_)
                      · refine lv_iconst (v := nI 1) cx.1 cx.2.1 dL_name_162 (by decide) ?_
                        refine lv_iload cx.1 cx.2.1 dL_name_163 (lv_at hl 1 rfl) ?_
                        refine lv_bipush (v := nI 65) cx.1 cx.2.1 dL_name_165 (by decide) ?_
                        refine lv_isub (x := xSg (Y 5) k x) (y := 65) cx.1 cx.2.1 dL_name_167 ?_
                        refine lv_iconst (v := nI 3) cx.1 cx.2.1 dL_name_168 (by decide) ?_
                        refine lv_imul (x := (xSg (Y 5) k x) - 65) (y := 3) cx.1 cx.2.1 dL_name_169 ?_
                        refine lv_iconst (v := nI 5) cx.1 cx.2.1 dL_name_170 (by decide) ?_
                        refine lv_irem (x := ((xSg (Y 5) k x) - 65) * 3) (y := 5) cx.1 cx.2.1 dL_name_171 (by decide) ?_
                        refine nv_eqi (y := irem (((xSg (Y 5) k x) - 65) * 3) 5) rfl ?_
                        refine lv_iadd (x := 1) (y := irem (((xSg (Y 5) k x) - 65) * 3) 5) cx.1 cx.2.1 dL_name_172 ?_
                        refine nv_eqi (y := xI (xSg (Y 5) k x)) (by first | (rw [c_53]; rfl) | (unfold xI; rw [if_neg (by assumption), if_neg (by assumption)])) ?_
                        exact jn144  ls  hl
                      · refine lv_iconst (v := nI 1) cx.1 cx.2.1 dL_name_158 (by decide) ?_
                        refine lv_goto (tgt := 173) cx.1 cx.2.1 dL_name_159 (by decide) ?_
                        refine nv_eqi (y := xI (xSg (Y 5) k x)) (by first | (rw [c_53]; rfl) | (unfold xI; rw [if_neg (by assumption), if_neg (by assumption)])) ?_
                        exact jn144  ls  hl
                    · refine lv_iconst (v := nI 2) cx.1 cx.2.1 dL_name_147 (by decide) ?_
                      refine lv_goto (tgt := 173) cx.1 cx.2.1 dL_name_148 (by decide) ?_
                      refine nv_eqi (y := xI (xSg (Y 5) k x)) (by first | (rw [c_52]; rfl) | (unfold xI; rw [if_neg (by assumption), if_neg (by assumption)])) ?_
                      exact jn144  ls  hl
                  refine nv_if_eq (a := x) (tgt := 103) cx dL_name_92 (by decide) (by omega) (fun c_54 => ?_) (fun c_54 => ?_)
                  · refine lv_aload_n cx.1 cx.2.1 dL_name_103 rfl (lv_at hl 2 rfl) ?_
                    refine lv_iload_n cx.1 cx.2.1 dL_name_104 rfl (lv_at hl 3 rfl) ?_
                    refine lv_iload cx.1 cx.2.1 dL_name_105 (lv_at hl 8 rfl) ?_
                    refine lv_iconst (v := nI 5) cx.1 cx.2.1 dL_name_107 (by decide) ?_
                    refine RO.callV (As := [.int (nI k), .int (nI x), .int 5]) (rest := []) cx (c_X6_sign l G a AD Y (nI k) (nI x) 5 hok) gL_name_X6_sign rfl hd_X6_sign ⟨Nat.le_of_ble_eq_true rfl, Nat.le_of_ble_eq_true rfl⟩ (va_recv hK hP (ci := 5) (q0 := 0) rfl rfl) hK hN hP rfl hl.1 rfl (Nat.le_of_ble_eq_true rfl) dL_name_108 ⟨Nat.zero_le _, Nat.zero_le _⟩ ?_
                    refine nv_eqi (y := ySb (Y 5) k x (xSize (Y 5))) (sg5 hok (by omega) (by omega)) ?_
                    refine lv_iload cx.1 cx.2.1 dL_name_111 (lv_at hl 7 rfl) ?_
                    refine lv_if_ne (x := xSize (Y 5)) (tgt := 122) cx.1 cx.2.1 dL_name_113 (by decide) (fun c_55 => ?_) (fun c_55 => ?_)
                    · have hz1 : ¬ xSize (Y 5) = 0 := c_55
                      refine lv_aload_n cx.1 cx.2.1 dL_name_122 rfl (lv_at hl 2 rfl) ?_
                      refine lv_iload_n cx.1 cx.2.1 dL_name_123 rfl (lv_at hl 3 rfl) ?_
                      refine lv_iconst (v := nI 5) cx.1 cx.2.1 dL_name_124 (by decide) ?_
                      refine RO.callV (As := [.int (nI k), .int 5]) (rest := [.int (ySb (Y 5) k x (xSize (Y 5)))]) cx (c_X6_name l G a AD Y (nI k) 5 hok) gL_name_X6_name rfl hd_X6_name ⟨Nat.le_of_ble_eq_true rfl, Nat.le_of_ble_eq_true rfl⟩ (va_recv hK hP (ci := 5) (q0 := 0) rfl rfl) hK hN hP rfl hl.1 rfl (Nat.le_of_ble_eq_true rfl) dL_name_125 ⟨Nat.zero_le _, Nat.zero_le _⟩ ?_
                      refine nv_eqi (y := xBeg (Y 5) k (xSize (Y 5))) ((nm5 hok hk).trans (if_neg hz1)) ?_
                      refine lv_iload cx.1 cx.2.1 dL_name_128 (lv_at hl 7 rfl) ?_
                      refine lv_iload_n cx.1 cx.2.1 dL_name_130 rfl (lv_at hl 5 rfl) ?_
                      refine lv_imul (x := xSize (Y 5)) (y := xUb (Y 5) k x) cx.1 cx.2.1 dL_name_131 ?_
                      refine lv_iadd (x := xBeg (Y 5) k (xSize (Y 5))) (y := (xSize (Y 5)) * (xUb (Y 5) k x)) cx.1 cx.2.1 dL_name_132 ?_
                      refine lv_icmp_eq (x := ySb (Y 5) k x (xSize (Y 5))) (y := (xBeg (Y 5) k (xSize (Y 5))) + ((xSize (Y 5)) * (xUb (Y 5) k x))) (tgt := 138) cx.1 cx.2.1 dL_name_133 (by decide) (fun c_56 => ?_) (fun c_56 => ?_)
                      · exact jn92  ls  hl
                      · first | exact absurd (if_pos hz0) c_56 | exact absurd (by unfold ySb; rw [if_neg hz1, Int32.mul_comm]) c_56
                    · have hz0 : xSize (Y 5) = 0 := c_55
                      refine lv_sipush (v := (-1005)) cx.1 cx.2.1 dL_name_116 (by decide) ?_
                      refine lv_goto (tgt := 133) cx.1 cx.2.1 dL_name_119 (by decide) ?_
                      refine lv_icmp_eq (x := ySb (Y 5) k x (xSize (Y 5))) (y := (-1005)) (tgt := 138) cx.1 cx.2.1 dL_name_133 (by decide) (fun c_57 => ?_) (fun c_57 => ?_)
                      · exact jn92  ls  hl
                      · first | exact absurd (if_pos hz0) c_57 | exact absurd (by unfold ySb; rw [if_neg hz1, Int32.mul_comm]) c_57
                  · refine lv_iload cx.1 cx.2.1 dL_name_95 (lv_at hl 8 rfl) ?_
                    refine lv_iload_n cx.1 cx.2.1 dL_name_97 rfl (lv_at hl 4 rfl) ?_
                    refine lv_iconst (v := nI 1) cx.1 cx.2.1 dL_name_98 (by decide) ?_
                    refine nv_isub cx (a := xl (Y 5) k) (b := 1) (by omega) dL_name_99 ?_
                    refine nv_icmp_ne (a := x) (b := xl (Y 5) k - 1) (tgt := 138) cx dL_name_100 (by decide) (by omega) (by omega) (fun c_58 => ?_) (fun c_58 => ?_)
                    · exact absurd c_58 (by omega)
                    · refine lv_aload_n cx.1 cx.2.1 dL_name_103 rfl (lv_at hl 2 rfl) ?_
                      refine lv_iload_n cx.1 cx.2.1 dL_name_104 rfl (lv_at hl 3 rfl) ?_
                      refine lv_iload cx.1 cx.2.1 dL_name_105 (lv_at hl 8 rfl) ?_
                      refine lv_iconst (v := nI 5) cx.1 cx.2.1 dL_name_107 (by decide) ?_
                      refine RO.callV (As := [.int (nI k), .int (nI x), .int 5]) (rest := []) cx (c_X6_sign l G a AD Y (nI k) (nI x) 5 hok) gL_name_X6_sign rfl hd_X6_sign ⟨Nat.le_of_ble_eq_true rfl, Nat.le_of_ble_eq_true rfl⟩ (va_recv hK hP (ci := 5) (q0 := 0) rfl rfl) hK hN hP rfl hl.1 rfl (Nat.le_of_ble_eq_true rfl) dL_name_108 ⟨Nat.zero_le _, Nat.zero_le _⟩ ?_
                      refine nv_eqi (y := ySb (Y 5) k x (xSize (Y 5))) (sg5 hok (by omega) (by omega)) ?_
                      refine lv_iload cx.1 cx.2.1 dL_name_111 (lv_at hl 7 rfl) ?_
                      refine lv_if_ne (x := xSize (Y 5)) (tgt := 122) cx.1 cx.2.1 dL_name_113 (by decide) (fun c_59 => ?_) (fun c_59 => ?_)
                      · have hz1 : ¬ xSize (Y 5) = 0 := c_59
                        refine lv_aload_n cx.1 cx.2.1 dL_name_122 rfl (lv_at hl 2 rfl) ?_
                        refine lv_iload_n cx.1 cx.2.1 dL_name_123 rfl (lv_at hl 3 rfl) ?_
                        refine lv_iconst (v := nI 5) cx.1 cx.2.1 dL_name_124 (by decide) ?_
                        refine RO.callV (As := [.int (nI k), .int 5]) (rest := [.int (ySb (Y 5) k x (xSize (Y 5)))]) cx (c_X6_name l G a AD Y (nI k) 5 hok) gL_name_X6_name rfl hd_X6_name ⟨Nat.le_of_ble_eq_true rfl, Nat.le_of_ble_eq_true rfl⟩ (va_recv hK hP (ci := 5) (q0 := 0) rfl rfl) hK hN hP rfl hl.1 rfl (Nat.le_of_ble_eq_true rfl) dL_name_125 ⟨Nat.zero_le _, Nat.zero_le _⟩ ?_
                        refine nv_eqi (y := xBeg (Y 5) k (xSize (Y 5))) ((nm5 hok hk).trans (if_neg hz1)) ?_
                        refine lv_iload cx.1 cx.2.1 dL_name_128 (lv_at hl 7 rfl) ?_
                        refine lv_iload_n cx.1 cx.2.1 dL_name_130 rfl (lv_at hl 5 rfl) ?_
                        refine lv_imul (x := xSize (Y 5)) (y := xUb (Y 5) k x) cx.1 cx.2.1 dL_name_131 ?_
                        refine lv_iadd (x := xBeg (Y 5) k (xSize (Y 5))) (y := (xSize (Y 5)) * (xUb (Y 5) k x)) cx.1 cx.2.1 dL_name_132 ?_
                        refine lv_icmp_eq (x := ySb (Y 5) k x (xSize (Y 5))) (y := (xBeg (Y 5) k (xSize (Y 5))) + ((xSize (Y 5)) * (xUb (Y 5) k x))) (tgt := 138) cx.1 cx.2.1 dL_name_133 (by decide) (fun c_60 => ?_) (fun c_60 => ?_)
                        · exact jn92  ls  hl
                        · first | exact absurd (if_pos hz0) c_60 | exact absurd (by unfold ySb; rw [if_neg hz1, Int32.mul_comm]) c_60
                      · have hz0 : xSize (Y 5) = 0 := c_59
                        refine lv_sipush (v := (-1005)) cx.1 cx.2.1 dL_name_116 (by decide) ?_
                        refine lv_goto (tgt := 133) cx.1 cx.2.1 dL_name_119 (by decide) ?_
                        refine lv_icmp_eq (x := ySb (Y 5) k x (xSize (Y 5))) (y := (-1005)) (tgt := 138) cx.1 cx.2.1 dL_name_133 (by decide) (fun c_61 => ?_) (fun c_61 => ?_)
                        · exact jn92  ls  hl
                        · first | exact absurd (if_pos hz0) c_61 | exact absurd (by unfold ySb; rw [if_neg hz1, Int32.mul_comm]) c_61
                · exact absurd c_50 (by decide)
  exact lp21 _ 0 (Nat.lt_succ_self _) (by omega) ls (lv_sub hl [5, 6, 4, 3, 2, 1, 0] rfl)
