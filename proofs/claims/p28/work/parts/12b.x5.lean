/-! ===== x5: laid by program ===== -/
theorem iw_X6_addNamesOfText_X6 : ∀ w ∈ wsX60, w ∈ wsX6_addNamesOfText := fun _ h => List.mem_cons_of_mem _ (List.mem_append_left _ (List.mem_append_left _ (List.mem_append_left _ (List.mem_append_right _ h))))
theorem fw_X6_addNamesOfText_f10 : (Cond.fieldLink RX6 10 "NamePlate" "now" "LNamePlate$State;") ∈ wsX6_addNamesOfText := List.mem_of_getElem? (i := 1) rfl
theorem iw_X6_addNamesOfText_X4 : ∀ w ∈ wsX40, w ∈ wsX6_addNamesOfText := fun _ h => List.mem_cons_of_mem _ (List.mem_append_left _ (List.mem_append_left _ (List.mem_append_right _ h)))
theorem fw_X6_addNamesOfText_f29 : (Cond.fieldLink RX6 29 "NamePlate" "text" "LNamePlate$Text;") ∈ wsX6_addNamesOfText := List.mem_of_getElem? (i := 2) rfl
theorem iw_X6_addNamesOfText_X5 : ∀ w ∈ wsX50, w ∈ wsX6_addNamesOfText := fun _ h => List.mem_cons_of_mem _ (List.mem_append_left _ (List.mem_append_right _ h))
set_option maxHeartbeats 4000000 in
set_option maxRecDepth 100000 in
theorem c_X6_addNamesOfText (l : Launch) (G : GG) (a : Nat → Nat) (AD : Nat → Nat → Nat) (Y : Nat → XS)  (hot : okT Y) (hok : okX (Y 5)) (hno : ∀ j, j < yt Y → xBad Y j = false) (h20 : xn (Y 5) + xNmN Y (yt Y) ≤ 20) : WR l yX6_addNamesOfText wsX6_addNamesOfText 2 43 G (plC G a AD Y) [.ref (a 0)] none (plC G a AD (va_up Y 5 (xAd (Y 5) (Y 7 0) (yt Y)))) := by
  refine WR.start (cc := cX6_addNamesOfText) (maxL := 3) (ret := none) (by decide) rfl (Nat.le_of_ble_eq_true rfl) ?_
  intro p e s m below meth c ls cx hr hlocks hK hN hP hD hS hl
  have cx : CallFix p m c cX6_addNamesOfText 3 s [.ref (a 0)].toArray wsX6_addNamesOfText RX6 := cx
  have hl : lv_has ls 3 [(0, .ref (a 0))] := hl
  have h60 := hot.n60
  have hn1 : 1 ≤ xNmN Y (yt Y) := xNmN_mono Y (Nat.zero_le _)
  have hall9 := xAd_ok hok hot hno h20
  refine lv_aload_n cx.1 cx.2.1 dX6_addNamesOfText_0 rfl (lv_at hl 0 rfl) ?_
  refine va_get (ci := 5) (C := RX6) (T := TX6) (N := 5) (v := .ref (AD 5 0)) cx.1 cx.2.1 cx.2.2.2.2 iw_X6_addNamesOfText_X6 cx.2.2.2.1 hK hP 0 rfl rfl 0 (by decide) (cx.2.2.2.2 _ fw_X6_addNamesOfText_f10) (fun _ h9 => h9) rfl dX6_addNamesOfText_1 ?_
  have hP5 : va_P G.1 vwCl (stC G (AD 5) (Y 5)) s.heap := pl_st (Y := Y) hP (by decide)
  refine va_getN (ci := 3) (C := RX4) (T := TX4) (N := 10) (v := .ref (AD 5 1)) cx.1 cx.2.1 cx.2.2.2.2 iw_X6_addNamesOfText_X4 cx.2.2.2.1 hK hP5 0 rfl rfl 0 (by decide) (va_Nw.use rfl (hN.at 0 rfl)) (fun _ h9 => h9) rfl dX6_addNamesOfText_4 ?_
  refine WR.callV (As := []) (rest := []) cx (c_X1_begin l G (AD 5) (Y 5) hok (by omega)) gX6_addNamesOfText_X1_begin rfl hd_X1_begin ⟨Nat.le_of_ble_eq_true rfl, Nat.le_of_ble_eq_true rfl⟩ (va_recv hK hP5 (ci := 1) (q0 := 1) rfl rfl) hK hN hP5 (pl_Dx hD (by decide)) hS (fun _ h => pl_wAx (by decide) h) rfl hl.1 rfl (Nat.le_of_ble_eq_true rfl) dX6_addNamesOfText_7 ⟨Nat.zero_le _, Nat.zero_le _⟩ (fun H1 locs hP1 hk1 hS => ?_)
  have hP : va_P G.1 vwCl (plC G a AD (va_up Y 5 (xBg (Y 5)))) H1 := pl_put hP hD (by decide) hk1 hP1
  have hD : va_D (wA (plC G a AD Y)) (plC G a AD (va_up Y 5 (xBg (Y 5)))) := pl_Dput hD
  generalize H1 = H at hP hS ⊢
  clear hP1 hk1
  refine lv_iconst (v := nI 0) cx.1 cx.2.1 dX6_addNamesOfText_10 (by decide) ?_
  refine lv_istore_n (lv' := [(1, .int (nI 0)), (0, .ref (a 0))]) cx.1 cx.2.1 dX6_addNamesOfText_11 rfl hl (by decide) rfl (fun ls hl => ?_)
  have lp12 : ∀ (r : Nat) (i : Nat) (hr9 : yt Y - i < r) (hi : i ≤ yt Y) (H : Heap) (locs : List Loc) (hP : va_P G.1 vwCl (plC G a AD (va_up Y 5 (xAd (Y 5) (Y 7 0) i))) H) (hD : va_D (wA (plC G a AD Y)) (plC G a AD (va_up Y 5 (xAd (Y 5) (Y 7 0) i)))) (hS : va_S (wA (plC G a AD Y)) s.heap H locs) (ls : Array Slot), lv_has ls 3 [(0, .ref (a 0)), (1, .int (nI i))] → W p l e ({ frames := 2, cells := 0, slots := 0, locals := 43 } : Room) s m [.ref (a 0)].toArray below meth c H locs 0 0 (MQ below (QW G (plC G a AD Y) none (plC G a AD (va_up Y 5 (xAd (Y 5) (Y 7 0) (yt Y))))) [.ref (a 0)].toArray s 0 0 (wA (plC G a AD Y))) (F0 m 12 ls []) := by
    intro r
    induction r with
    | zero => intro i hr9; exact absurd hr9 (Nat.not_lt_zero _)
    | succ r ih12 =>
      intro i hr9 hi H locs hP hD hS ls hl
      obtain ⟨hA1, hA2, hA3⟩ := hall9 i hi
      have hm1 := xNmN_mono Y hi
      have h1i : 1 ≤ xNmN Y i := xNmN_mono Y (Nat.zero_le _)
      refine lv_iload_n cx.1 cx.2.1 dX6_addNamesOfText_12 rfl (lv_at hl 1 rfl) ?_
      refine lv_aload_n cx.1 cx.2.1 dX6_addNamesOfText_13 rfl (lv_at hl 0 rfl) ?_
      refine va_get (ci := 5) (C := RX6) (T := TX6) (N := 5) (v := .ref (a 3)) cx.1 cx.2.1 cx.2.2.2.2 iw_X6_addNamesOfText_X6 cx.2.2.2.1 hK hP 0 rfl rfl 3 (by decide) (cx.2.2.2.2 _ fw_X6_addNamesOfText_f29) (fun _ h9 => h9) rfl dX6_addNamesOfText_14 ?_
      refine va_getN (ci := 4) (C := RX5) (T := TX5) (N := 2) (v := .int ((va_up Y 5 (xAd (Y 5) (Y 7 0) i)) 7 5 2)) cx.1 cx.2.1 cx.2.2.2.2 iw_X6_addNamesOfText_X5 cx.2.2.2.1 hK hP 3 rfl rfl 1 (by decide) (va_Nw.use rfl (hN.at 11 rfl)) (fun _ h9 => h9) rfl dX6_addNamesOfText_17 ?_
      refine nv_eqi (y := nI (yt Y)) hot.n ?_
      refine nv_icmp_ge (a := i) (b := yt Y) (tgt := 68) cx dX6_addNamesOfText_20 (by decide) (by omega) (by omega) (fun c_1 => ?_) (fun c_1 => ?_)
      · have et : i = yt Y := by omega
        subst et
        exact WR.retv cx hr hlocks dX6_addNamesOfText_68 hP hS
      · refine lv_aload_n cx.1 cx.2.1 dX6_addNamesOfText_23 rfl (lv_at hl 0 rfl) ?_
        refine va_get (ci := 5) (C := RX6) (T := TX6) (N := 5) (v := .ref (a 3)) cx.1 cx.2.1 cx.2.2.2.2 iw_X6_addNamesOfText_X6 cx.2.2.2.1 hK hP 0 rfl rfl 3 (by decide) (cx.2.2.2.2 _ fw_X6_addNamesOfText_f29) (fun _ h9 => h9) rfl dX6_addNamesOfText_24 ?_
        refine lv_iload_n cx.1 cx.2.1 dX6_addNamesOfText_27 rfl (lv_at hl 1 rfl) ?_
        refine RO.callV (As := [.int (nI i)]) (rest := []) cx (c_X5_characterAt l G a AD (va_up Y 5 (xAd (Y 5) (Y 7 0) i)) i hot (by omega)) gX6_addNamesOfText_X5_characterAt rfl hd_X5_characterAt ⟨Nat.le_of_ble_eq_true rfl, Nat.le_of_ble_eq_true rfl⟩ (va_recv hK hP (ci := 4) (q0 := 3) rfl rfl) hK hN hP rfl hl.1 rfl (Nat.le_of_ble_eq_true rfl) dX6_addNamesOfText_28 ⟨Nat.zero_le _, Nat.zero_le _⟩ ?_
        refine nv_eqi (y := Y 7 0 i) rfl ?_
        refine lv_istore_n (lv' := [(2, .int (Y 7 0 i)), (0, .ref (a 0)), (1, .int (nI i))]) cx.1 cx.2.1 dX6_addNamesOfText_31 rfl hl (by decide) rfl (fun ls hl => ?_)
        refine lv_iload_n cx.1 cx.2.1 dX6_addNamesOfText_32 rfl (lv_at hl 0 rfl) ?_
        refine lv_bipush (v := nI 59) cx.1 cx.2.1 dX6_addNamesOfText_33 (by decide) ?_
        refine lv_icmp_ne (x := Y 7 0 i) (y := 59) (tgt := 51) cx.1 cx.2.1 dX6_addNamesOfText_35 (by decide) (fun c_2 => ?_) (fun c_2 => ?_)
        · have h59 : ¬ Y 7 0 i = 59 := c_2
          have hs16 := xSc16 (hno i (by omega)) h59
          refine lv_aload_n cx.1 cx.2.1 dX6_addNamesOfText_51 rfl (lv_at hl 1 rfl) ?_
          refine va_get (ci := 5) (C := RX6) (T := TX6) (N := 5) (v := .ref (AD 5 0)) cx.1 cx.2.1 cx.2.2.2.2 iw_X6_addNamesOfText_X6 cx.2.2.2.1 hK hP 0 rfl rfl 0 (by decide) (cx.2.2.2.2 _ fw_X6_addNamesOfText_f10) (fun _ h9 => h9) rfl dX6_addNamesOfText_52 ?_
          have hP5 : va_P G.1 vwCl (stC G (AD 5) (xAd (Y 5) (Y 7 0) i)) H := pl_st (Y := va_up Y 5 (xAd (Y 5) (Y 7 0) i)) hP (by decide)
          refine va_getN (ci := 3) (C := RX4) (T := TX4) (N := 10) (v := .ref (AD 5 1)) cx.1 cx.2.1 cx.2.2.2.2 iw_X6_addNamesOfText_X4 cx.2.2.2.1 hK hP5 0 rfl rfl 0 (by decide) (va_Nw.use rfl (hN.at 0 rfl)) (fun _ h9 => h9) rfl dX6_addNamesOfText_55 ?_
          refine lv_iload_n cx.1 cx.2.1 dX6_addNamesOfText_58 rfl (lv_at hl 0 rfl) ?_
          refine WR.callV (As := [.int (Y 7 0 i)]) (rest := []) cx (c_X1_append l G (AD 5) (xAd (Y 5) (Y 7 0) i) (Y 7 0 i) hA1 (by omega) (by omega) (hot.c (by omega))) gX6_addNamesOfText_X1_append rfl hd_X1_append ⟨Nat.le_of_ble_eq_true rfl, Nat.le_of_ble_eq_true rfl⟩ (va_recv hK hP5 (ci := 1) (q0 := 1) rfl rfl) hK hN hP5 (pl_Dx hD (by decide)) hS (fun _ h => pl_wAx (by decide) h) rfl hl.1 rfl (Nat.le_of_ble_eq_true rfl) dX6_addNamesOfText_59 ⟨Nat.zero_le _, Nat.zero_le _⟩ (fun H1 locs hP1 hk1 hS => ?_)
          have hP : va_P G.1 vwCl (plC G a AD (va_up (va_up Y 5 (xAd (Y 5) (Y 7 0) i)) 5 (xAp (xAd (Y 5) (Y 7 0) i) (Y 7 0 i)))) H1 := pl_put hP hD (by decide) hk1 hP1
          have hD : va_D (wA (plC G a AD Y)) (plC G a AD (va_up (va_up Y 5 (xAd (Y 5) (Y 7 0) i)) 5 (xAp (xAd (Y 5) (Y 7 0) i) (Y 7 0 i)))) := pl_Dput hD
          generalize H1 = H at hP hS ⊢
          clear hP1 hk1
          refine lv_iinc (v := nI (i + 1)) (lv' := [(1, .int (nI (i + 1))), (2, .int (Y 7 0 i)), (0, .ref (a 0))]) cx.1 cx.2.1 dX6_addNamesOfText_62 hl (k := 2) rfl (show nI i + Int32.ofInt 1 = nI (i + 1) from nI_add i 1) (by decide) rfl (fun ls hl => ?_)
          refine lv_goto (tgt := 12) cx.1 cx.2.1 dX6_addNamesOfText_65 (by decide) ?_
          exact ih12 (i + 1) (by omega) (by omega) _ _ (by first | (rw [xAd_p h59, ← va_up_up Y 5 (xAd (Y 5) (Y 7 0) i)]; exact hP) | (rw [xAd_n h59, ← va_up_up Y 5 (xAd (Y 5) (Y 7 0) i)]; exact hP)) (pl_Dput hD) hS ls (lv_sub hl [2, 0] rfl)
        · have h59 : Y 7 0 i = 59 := c_2
          have hm2 := xNmN_mono Y (show i + 1 ≤ yt Y by omega)
          rw [xNmN_p h59] at hm2
          refine lv_aload_n cx.1 cx.2.1 dX6_addNamesOfText_38 rfl (lv_at hl 1 rfl) ?_
          refine va_get (ci := 5) (C := RX6) (T := TX6) (N := 5) (v := .ref (AD 5 0)) cx.1 cx.2.1 cx.2.2.2.2 iw_X6_addNamesOfText_X6 cx.2.2.2.1 hK hP 0 rfl rfl 0 (by decide) (cx.2.2.2.2 _ fw_X6_addNamesOfText_f10) (fun _ h9 => h9) rfl dX6_addNamesOfText_39 ?_
          have hP5 : va_P G.1 vwCl (stC G (AD 5) (xAd (Y 5) (Y 7 0) i)) H := pl_st (Y := va_up Y 5 (xAd (Y 5) (Y 7 0) i)) hP (by decide)
          refine va_getN (ci := 3) (C := RX4) (T := TX4) (N := 10) (v := .ref (AD 5 1)) cx.1 cx.2.1 cx.2.2.2.2 iw_X6_addNamesOfText_X4 cx.2.2.2.1 hK hP5 0 rfl rfl 0 (by decide) (va_Nw.use rfl (hN.at 0 rfl)) (fun _ h9 => h9) rfl dX6_addNamesOfText_42 ?_
          refine WR.callV (As := []) (rest := []) cx (c_X1_begin l G (AD 5) (xAd (Y 5) (Y 7 0) i) hA1 (by omega)) gX6_addNamesOfText_X1_begin rfl hd_X1_begin ⟨Nat.le_of_ble_eq_true rfl, Nat.le_of_ble_eq_true rfl⟩ (va_recv hK hP5 (ci := 1) (q0 := 1) rfl rfl) hK hN hP5 (pl_Dx hD (by decide)) hS (fun _ h => pl_wAx (by decide) h) rfl hl.1 rfl (Nat.le_of_ble_eq_true rfl) dX6_addNamesOfText_45 ⟨Nat.zero_le _, Nat.zero_le _⟩ (fun H1 locs hP1 hk1 hS => ?_)
          have hP : va_P G.1 vwCl (plC G a AD (va_up (va_up Y 5 (xAd (Y 5) (Y 7 0) i)) 5 (xBg (xAd (Y 5) (Y 7 0) i)))) H1 := pl_put hP hD (by decide) hk1 hP1
          have hD : va_D (wA (plC G a AD Y)) (plC G a AD (va_up (va_up Y 5 (xAd (Y 5) (Y 7 0) i)) 5 (xBg (xAd (Y 5) (Y 7 0) i)))) := pl_Dput hD
          generalize H1 = H at hP hS ⊢
          clear hP1 hk1
          refine lv_goto (tgt := 62) cx.1 cx.2.1 dX6_addNamesOfText_48 (by decide) ?_
          refine lv_iinc (v := nI (i + 1)) (lv' := [(1, .int (nI (i + 1))), (2, .int (Y 7 0 i)), (0, .ref (a 0))]) cx.1 cx.2.1 dX6_addNamesOfText_62 hl (k := 2) rfl (show nI i + Int32.ofInt 1 = nI (i + 1) from nI_add i 1) (by decide) rfl (fun ls hl => ?_)
          refine lv_goto (tgt := 12) cx.1 cx.2.1 dX6_addNamesOfText_65 (by decide) ?_
          exact ih12 (i + 1) (by omega) (by omega) _ _ (by first | (rw [xAd_p h59, ← va_up_up Y 5 (xAd (Y 5) (Y 7 0) i)]; exact hP) | (rw [xAd_n h59, ← va_up_up Y 5 (xAd (Y 5) (Y 7 0) i)]; exact hP)) (pl_Dput hD) hS ls (lv_sub hl [2, 0] rfl)
  exact lp12 _ 0 (Nat.lt_succ_self _) (by omega) H locs hP (pl_Dput hD) hS ls (lv_sub hl [1, 0] rfl)

theorem iw_X6_readNames_X6 : ∀ w ∈ wsX60, w ∈ wsX6_readNames := fun _ h => List.mem_cons_of_mem _ (List.mem_append_left _ (List.mem_append_left _ (List.mem_append_left _ (List.mem_append_left _ (List.mem_append_left _ (List.mem_append_right _ h))))))
theorem fw_X6_readNames_f29 : (Cond.fieldLink RX6 29 "NamePlate" "text" "LNamePlate$Text;") ∈ wsX6_readNames := List.mem_of_getElem? (i := 1) rfl
theorem fw_X6_readNames_f10 : (Cond.fieldLink RX6 10 "NamePlate" "now" "LNamePlate$State;") ∈ wsX6_readNames := List.mem_of_getElem? (i := 2) rfl
theorem iw_X6_readNames_X4 : ∀ w ∈ wsX40, w ∈ wsX6_readNames := fun _ h => List.mem_cons_of_mem _ (List.mem_append_left _ (List.mem_append_left _ (List.mem_append_left _ (List.mem_append_left _ (List.mem_append_right _ h)))))
theorem iw_X6_readNames_X1 : ∀ w ∈ wsX10, w ∈ wsX6_readNames := fun _ h => List.mem_cons_of_mem _ (List.mem_append_left _ (List.mem_append_left _ (List.mem_append_left _ (List.mem_append_right _ h))))
theorem fw_X6_readNames_f22 : (Cond.fieldLink RX6 22 "NamePlate" "history" "LNamePlate$History;") ∈ wsX6_readNames := List.mem_of_getElem? (i := 3) rfl
set_option maxHeartbeats 4000000 in
set_option maxRecDepth 100000 in
theorem c_X6_readNames (l : Launch) (G : GG) (a : Nat → Nat) (AD : Nat → Nat → Nat) (Y : Nat → XS)  (hot : okT Y) (hoh : okH Y) (hall : ∀ i, i < 7 → okX (Y i)) : WR l yX6_readNames wsX6_readNames 4 82 G (plC G a AD Y) [.ref (a 0)] (some (.int ((yReadN Y).1))) (plC G a AD ((yReadN Y).2)) := by
  refine WR.start (cc := cX6_readNames) (maxL := 3) (ret := (some .int)) (by decide) rfl (Nat.le_of_ble_eq_true rfl) ?_
  intro p e s m below meth c ls cx hr hlocks hK hN hP hD hS hl
  have cx : CallFix p m c cX6_readNames 3 s [.ref (a 0)].toArray wsX6_readNames RX6 := cx
  have hl : lv_has ls 3 [(0, .ref (a 0))] := hl
  have hok := hall 5 (by decide)
  have h60 := hot.n60
  have hn20 := hok.n20
  have hnl := xNmN_le Y (yt Y)
  refine lv_aload_n cx.1 cx.2.1 dX6_readNames_0 rfl (lv_at hl 0 rfl) ?_
  refine va_get (ci := 5) (C := RX6) (T := TX6) (N := 5) (v := .ref (a 3)) cx.1 cx.2.1 cx.2.2.2.2 iw_X6_readNames_X6 cx.2.2.2.1 hK hP 0 rfl rfl 3 (by decide) (cx.2.2.2.2 _ fw_X6_readNames_f29) (fun _ h9 => h9) rfl dX6_readNames_1 ?_
  refine RO.callV (As := []) (rest := []) cx (c_X5_fault l G a AD Y hot) gX6_readNames_X5_fault rfl hd_X5_fault ⟨Nat.le_of_ble_eq_true rfl, Nat.le_of_ble_eq_true rfl⟩ (va_recv hK hP (ci := 4) (q0 := 3) rfl rfl) hK hN hP rfl hl.1 rfl (Nat.le_of_ble_eq_true rfl) dX6_readNames_4 ⟨Nat.zero_le _, Nat.zero_le _⟩ ?_
  refine lv_istore_n (lv' := [(1, .int (xFault Y)), (0, .ref (a 0))]) cx.1 cx.2.1 dX6_readNames_7 rfl hl (by decide) rfl (fun ls hl => ?_)
  refine lv_iload_n cx.1 cx.2.1 dX6_readNames_8 rfl (lv_at hl 0 rfl) ?_
  refine lv_iconst (v := (-1)) cx.1 cx.2.1 dX6_readNames_9 (by decide) ?_
  refine lv_icmp_eq (x := xFault Y) (y := (-1)) (tgt := 18) cx.1 cx.2.1 dX6_readNames_10 (by decide) (fun c_1 => ?_) (fun c_1 => ?_)
  · have hfl := c_1
    have hno := xFault_no h60 c_1
    refine lv_aload_n cx.1 cx.2.1 dX6_readNames_18 rfl (lv_at hl 1 rfl) ?_
    refine va_get (ci := 5) (C := RX6) (T := TX6) (N := 5) (v := .ref (a 3)) cx.1 cx.2.1 cx.2.2.2.2 iw_X6_readNames_X6 cx.2.2.2.1 hK hP 0 rfl rfl 3 (by decide) (cx.2.2.2.2 _ fw_X6_readNames_f29) (fun _ h9 => h9) rfl dX6_readNames_19 ?_
    refine RO.callV (As := []) (rest := []) cx (c_X5_namesInIt l G a AD Y hot) gX6_readNames_X5_namesInIt rfl hd_X5_namesInIt ⟨Nat.le_of_ble_eq_true rfl, Nat.le_of_ble_eq_true rfl⟩ (va_recv hK hP (ci := 4) (q0 := 3) rfl rfl) hK hN hP rfl hl.1 rfl (Nat.le_of_ble_eq_true rfl) dX6_readNames_22 ⟨Nat.zero_le _, Nat.zero_le _⟩ ?_
    refine lv_istore_n (lv' := [(2, .int (nI (xNmN Y (yt Y)))), (1, .int (xFault Y)), (0, .ref (a 0))]) cx.1 cx.2.1 dX6_readNames_25 rfl hl (by decide) rfl (fun ls hl => ?_)
    refine lv_aload_n cx.1 cx.2.1 dX6_readNames_26 rfl (lv_at hl 2 rfl) ?_
    refine va_get (ci := 5) (C := RX6) (T := TX6) (N := 5) (v := .ref (AD 5 0)) cx.1 cx.2.1 cx.2.2.2.2 iw_X6_readNames_X6 cx.2.2.2.1 hK hP 0 rfl rfl 0 (by decide) (cx.2.2.2.2 _ fw_X6_readNames_f10) (fun _ h9 => h9) rfl dX6_readNames_27 ?_
    have hP5 : va_P G.1 vwCl (stC G (AD 5) (Y 5)) s.heap := pl_st (Y := Y) hP (by decide)
    refine va_getN (ci := 3) (C := RX4) (T := TX4) (N := 10) (v := .ref (AD 5 1)) cx.1 cx.2.1 cx.2.2.2.2 iw_X6_readNames_X4 cx.2.2.2.1 hK hP5 0 rfl rfl 0 (by decide) (va_Nw.use rfl (hN.at 0 rfl)) (fun _ h9 => h9) rfl dX6_readNames_30 ?_
    refine va_getN (ci := 1) (C := RX1) (T := TX1) (N := 3) (v := .int ((Y 5) 5 0)) cx.1 cx.2.1 cx.2.2.2.2 iw_X6_readNames_X1 cx.2.2.2.1 hK hP5 1 rfl rfl 2 (by decide) (va_Nw.use rfl (hN.at 1 rfl)) (fun _ h9 => h9) rfl dX6_readNames_33 ?_
    refine nv_eqi (y := nI (xn (Y 5))) hok.n ?_
    refine lv_iload_n cx.1 cx.2.1 dX6_readNames_36 rfl (lv_at hl 0 rfl) ?_
    refine nv_iadd cx (a := xn (Y 5)) (b := xNmN Y (yt Y)) dX6_readNames_37 ?_
    refine lv_bipush (v := nI 20) cx.1 cx.2.1 dX6_readNames_38 (by decide) ?_
    refine nv_icmp_le (a := xn (Y 5) + (xNmN Y (yt Y))) (b := 20) (tgt := 47) cx dX6_readNames_40 (by decide) (by omega) (by omega) (fun c_2 => ?_) (fun c_2 => ?_)
    · have h20 := c_2
      refine lv_aload_n cx.1 cx.2.1 dX6_readNames_47 rfl (lv_at hl 2 rfl) ?_
      refine va_get (ci := 5) (C := RX6) (T := TX6) (N := 5) (v := .ref (a 1)) cx.1 cx.2.1 cx.2.2.2.2 iw_X6_readNames_X6 cx.2.2.2.1 hK hP 0 rfl rfl 2 (by decide) (cx.2.2.2.2 _ fw_X6_readNames_f22) (fun _ h9 => h9) rfl dX6_readNames_48 ?_
      refine lv_aload_n cx.1 cx.2.1 dX6_readNames_51 rfl (lv_at hl 2 rfl) ?_
      refine va_get (ci := 5) (C := RX6) (T := TX6) (N := 5) (v := .ref (AD 5 0)) cx.1 cx.2.1 cx.2.2.2.2 iw_X6_readNames_X6 cx.2.2.2.1 hK hP 0 rfl rfl 0 (by decide) (cx.2.2.2.2 _ fw_X6_readNames_f10) (fun _ h9 => h9) rfl dX6_readNames_52 ?_
      refine WR.callV (As := [.ref (AD 5 0)]) (rest := []) cx (c_X0_record l G a AD Y hoh hok) gX6_readNames_X0_record rfl hd_X0_record ⟨Nat.le_of_ble_eq_true rfl, Nat.le_of_ble_eq_true rfl⟩ (va_recv hK hP (ci := 0) (q0 := 1) rfl rfl) hK hN hP hD hS (fun _ h => pl_wA0 h) rfl hl.1 rfl (Nat.le_of_ble_eq_true rfl) dX6_readNames_55 ⟨Nat.zero_le _, Nat.zero_le _⟩ (fun H1 locs hP1 hk1 hS => ?_)
      have hP : va_P G.1 vwCl (plC G a AD (yRec Y)) H1 := hP1
      have hD : va_D (wA (plC G a AD Y)) (plC G a AD (yRec Y)) := pl_Dput hD
      generalize H1 = H at hP hS ⊢
      clear hP1 hk1
      refine lv_aload_n cx.1 cx.2.1 dX6_readNames_58 rfl (lv_at hl 2 rfl) ?_
      refine WR.callV (As := []) (rest := []) cx (c_X6_addNamesOfText l G a AD (yRec Y) hot hok (fun j hj => (xBad_c (Y := Y) (Z := yRec Y) rfl j).trans (hno j hj)) (by show xn (Y 5) + xNmN (yRec Y) (yt Y) ≤ 20; rw [xNmN_c (Y := Y) (Z := yRec Y) rfl]; exact h20)) gX6_readNames_X6_addNamesOfText rfl hd_X6_addNamesOfText ⟨Nat.le_of_ble_eq_true rfl, Nat.le_of_ble_eq_true rfl⟩ (va_recv hK hP (ci := 5) (q0 := 0) rfl rfl) hK hN hP hD hS (fun _ h => pl_wA0 h) rfl hl.1 rfl (Nat.le_of_ble_eq_true rfl) dX6_readNames_59 ⟨Nat.zero_le _, Nat.zero_le _⟩ (fun H1 locs hP1 hk1 hS => ?_)
      have hP : va_P G.1 vwCl (plC G a AD (va_up (yRec Y) 5 (xAd ((yRec Y) 5) ((yRec Y) 7 0) (yt (yRec Y))))) H1 := hP1
      have hD : va_D (wA (plC G a AD Y)) (plC G a AD (va_up (yRec Y) 5 (xAd ((yRec Y) 5) ((yRec Y) 7 0) (yt (yRec Y))))) := pl_Dput hD
      generalize H1 = H at hP hS ⊢
      clear hP1 hk1
      refine lv_iload_n cx.1 cx.2.1 dX6_readNames_62 rfl (lv_at hl 0 rfl) ?_
      exact WR.ret (x := nI (xNmN Y (yt Y))) cx hr hlocks dX6_readNames_63 (by exact (congrArg (fun q : yR => q.1) (yReadN_go hfl h20)).symm) (by rw [yReadN_go hfl h20]; exact hP) hS
    · have h20 : ¬ xn (Y 5) + xNmN Y (yt Y) ≤ 20 := by omega
      refine lv_sipush (v := (-1003)) cx.1 cx.2.1 dX6_readNames_43 (by decide) ?_
      exact WR.ret (x := (-1003)) cx hr hlocks dX6_readNames_46 (by exact (congrArg (fun q : yR => q.1) (yReadN_n hfl h20)).symm) (by rw [yReadN_n hfl h20]; exact hP) hS
  · have hfl := c_1
    refine lv_bipush (v := (-100)) cx.1 cx.2.1 dX6_readNames_13 (by decide) ?_
    refine lv_iload_n cx.1 cx.2.1 dX6_readNames_15 rfl (lv_at hl 0 rfl) ?_
    refine lv_isub (x := (-100)) (y := xFault Y) cx.1 cx.2.1 dX6_readNames_16 ?_
    exact WR.ret (x := (-100) - (xFault Y)) cx hr hlocks dX6_readNames_17 (by exact (congrArg (fun q : yR => q.1) (yReadN_f hfl)).symm) (by rw [yReadN_f hfl]; exact hP) hS
