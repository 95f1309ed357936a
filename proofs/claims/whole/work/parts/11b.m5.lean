/-! ===== m5: laid by program ===== -/
theorem iw_X7_remove_X7 : ∀ w ∈ wsX70, w ∈ wsX7_remove := fun _ h => List.mem_cons_of_mem _ (List.mem_append_right _ h)
theorem fw_X7_remove_f7 : (Cond.fieldLink RX7 7 "NamePlateModel" "now" "[I") ∈ wsX7_remove := List.mem_of_getElem? (i := 1) rfl
set_option maxHeartbeats 4000000 in
set_option maxRecDepth 100000 in
theorem c_X7_remove (l : Launch) (G : GG) (ad : Nat → Nat) (M : XS) (seat : Int32) (hkk : okK M) (hok : okM (M 0)) : WR l yX7_remove wsX7_remove 2 43 G (mdC G ad M) [.ref (ad 0), .int seat] (some (.int ((mRemove M seat).1))) (mdC G ad ((mRemove M seat).2)) := by
  refine WR.start (cc := cX7_remove) (maxL := 3) (ret := (some .int)) (by decide) rfl (Nat.le_of_ble_eq_true rfl) ?_
  intro p e s m below meth c ls cx hr hlocks hK hN hP hD hS hl
  have cx : CallFix p m c cX7_remove 3 s [.ref (ad 0), .int seat].toArray wsX7_remove RX7 := cx
  have hl : lv_has ls 3 [(0, .ref (ad 0)), (1, .int seat)] := hl
  refine lv_aload_n cx.1 cx.2.1 dX7_remove_0 rfl (lv_at hl 0 rfl) ?_
  refine lv_iload_n cx.1 cx.2.1 dX7_remove_1 rfl (lv_at hl 1 rfl) ?_
  refine RO.callV (As := [.int seat]) (rest := []) cx (c_X7_noSeat l G ad M seat hok) gX7_remove_X7_noSeat rfl hd_X7_noSeat ⟨Nat.le_of_ble_eq_true rfl, Nat.le_of_ble_eq_true rfl⟩ (va_recv hK hP (ci := 6) (q0 := 0) rfl rfl) hK hN hP rfl hl.1 rfl (Nat.le_of_ble_eq_true rfl) dX7_remove_2 ⟨Nat.zero_le _, Nat.zero_le _⟩ ?_
  refine nv_ifz (b := mNo (M 0) seat) (tgt := 12) cx dX7_remove_5 (by decide) (fun c_1 => ?_) (fun c_1 => ?_)
  · obtain ⟨k, hk, rfl⟩ := mNo_no hok.n20 c_1
    have hn20 := hok.n20
    have ck := nI_clamp (show k < 2147483648 by omega)
    have tk := mNo_in hn20 hk
    refine lv_iload_n cx.1 cx.2.1 dX7_remove_12 rfl (lv_at hl 1 rfl) ?_
    refine lv_istore_n (lv' := [(2, .int (nI k)), (0, .ref (ad 0)), (1, .int (nI k))]) cx.1 cx.2.1 dX7_remove_13 rfl hl (by decide) rfl (fun ls hl => ?_)
    have lp14 : ∀ (r : Nat) (t : Nat) (hr9 : mn (M 0) - t < r) (ht : k + t ≤ mn (M 0)) (hno : ∀ j, j < t → (fun t => decide (mE (M 0) (k + t) = 1)) j = false) (ls : Array Slot), lv_has ls 3 [(2, .int (nI (k + t))), (0, .ref (ad 0)), (1, .int (nI k))] → W p l e ({ frames := 2, cells := 0, slots := 0, locals := 43 } : Room) s m [.ref (ad 0), .int (nI k)].toArray below meth c s.heap [] 0 0 (MQ below (QW G (mdC G ad M) (some (.int ((mRemove M (nI k)).1))) (mdC G ad ((mRemove M (nI k)).2))) [.ref (ad 0), .int (nI k)].toArray s 0 0 (wA (mdC G ad M))) (F0 m 14 ls []) := by
      intro r
      induction r with
      | zero => intro t hr9; exact absurd hr9 (Nat.not_lt_zero _)
      | succ r ih14 =>
        intro t hr9 ht hno ls hl
        refine lv_iload_n cx.1 cx.2.1 dX7_remove_14 rfl (lv_at hl 0 rfl) ?_
        refine lv_aload_n cx.1 cx.2.1 dX7_remove_15 rfl (lv_at hl 1 rfl) ?_
        refine va_get (ci := 6) (C := RX7) (T := TX7) (N := 7) (v := .ref (ad 1)) cx.1 cx.2.1 cx.2.2.2.2 iw_X7_remove_X7 cx.2.2.2.1 hK hP 0 rfl rfl 0 (by decide) (cx.2.2.2.2 _ fw_X7_remove_f7) (fun _ h9 => h9) rfl dX7_remove_16 ?_
        refine lv_iconst (v := nI 4) cx.1 cx.2.1 dX7_remove_19 (by decide) ?_
        refine nv_iald (j := 4) cx hK hP 1 1 rfl rfl (by omega) (by decide) dX7_remove_20 ?_
        refine nv_eqi (y := nI (mn (M 0))) hok.n ?_
        refine nv_icmp_ge (a := k + t) (b := mn (M 0)) (tgt := 42) cx dX7_remove_21 (by decide) (by omega) (by omega) (fun c_2 => ?_) (fun c_2 => ?_)
        · have hef : mEf (M 0) k = false := decide_eq_false (by rw [fstN_eq (by omega) hno (fun q => absurd q (by omega))]; omega)
          refine lv_aload_n cx.1 cx.2.1 dX7_remove_42 rfl (lv_at hl 1 rfl) ?_
          refine WR.callV (As := []) (rest := []) cx (c_X7_record l G ad M hkk) gX7_remove_X7_record rfl hd_X7_record ⟨Nat.le_of_ble_eq_true rfl, Nat.le_of_ble_eq_true rfl⟩ (va_recv hK hP (ci := 6) (q0 := 0) rfl rfl) hK hN hP hD hS (fun _ h => h) rfl hl.1 rfl (Nat.le_of_ble_eq_true rfl) dX7_remove_43 ⟨Nat.zero_le _, Nat.zero_le _⟩ (fun H1 locs hP1 hk1 hS => ?_)
          have hP : va_P G.1 vwCl (mdC G ad (mRec M)) H1 := hP1
          have hD : va_D (wA (mdC G ad M)) (mdC G ad (mRec M)) := hD.fst rfl
          generalize H1 = H at hP hS ⊢
          clear hP1 hk1
          refine lv_aload_n cx.1 cx.2.1 dX7_remove_46 rfl (lv_at hl 1 rfl) ?_
          refine va_get (ci := 6) (C := RX7) (T := TX7) (N := 7) (v := .ref (ad 1)) cx.1 cx.2.1 cx.2.2.2.2 iw_X7_remove_X7 cx.2.2.2.1 hK hP 0 rfl rfl 0 (by decide) (cx.2.2.2.2 _ fw_X7_remove_f7) (fun _ h9 => h9) rfl dX7_remove_47 ?_
          refine lv_iconst (v := nI 4) cx.1 cx.2.1 dX7_remove_50 (by decide) ?_
          refine lv_dup2_11 cx.1 cx.2.1 dX7_remove_51 rfl rfl ?_
          refine nv_iald (j := 4) cx hK hP 1 1 rfl rfl (by omega) (by decide) dX7_remove_52 ?_
          refine nv_eqi (y := nI (mn (M 0))) hok.n ?_
          refine lv_iconst (v := nI 1) cx.1 cx.2.1 dX7_remove_53 (by decide) ?_
          refine nv_isub cx (a := mn (M 0)) (b := 1) (by omega) dX7_remove_54 ?_
          refine nv_iast (j := 4) (x := nI (mn (M 0) - 1)) cx hK hP hD hS 1 1 rfl rfl (by omega) (by decide) dX7_remove_55 (ws1 := mdC G ad (va_up (mRec M) 0 (upd ((mRec M) 0) 4 (nI (mn (M 0) - 1))))) rfl (fun H locs hP hD hS => ?_)
          refine lv_bipush (v := nI 57) cx.1 cx.2.1 dX7_remove_56 (by decide) ?_
          refine lv_bipush (v := nI 18) cx.1 cx.2.1 dX7_remove_58 (by decide) ?_
          refine lv_iload_n cx.1 cx.2.1 dX7_remove_60 rfl (lv_at hl 2 rfl) ?_
          refine nv_imul cx (a := 18) (b := k) dX7_remove_61 ?_
          refine nv_iadd cx (a := 57) (b := 18 * k) dX7_remove_62 ?_
          refine lv_istore_n (lv' := [(2, .int (nI (57 + (18 * k)))), (0, .ref (ad 0)), (1, .int (nI k))]) cx.1 cx.2.1 dX7_remove_63 rfl hl (by decide) rfl (fun ls hl => ?_)
          have lp64 : ∀ (r : Nat) (x9 : Nat) (hr9 : 18 * mn (M 0) - x9 < r) (hx9 : x9 ≤ 18 * (mn (M 0) - 1 - k)) (H : Heap) (locs : List Loc) (hP : va_P G.1 vwCl (mdC G ad (va_up (mRec M) 0 (mvN (upd (M 0) 4 (nI (mn (M 0) - 1))) 18 (57 + 18 * k) x9))) H) (hD : va_D (wA (mdC G ad M)) (mdC G ad (va_up (mRec M) 0 (mvN (upd (M 0) 4 (nI (mn (M 0) - 1))) 18 (57 + 18 * k) x9)))) (hS : va_S (wA (mdC G ad M)) s.heap H locs) (ls : Array Slot), lv_has ls 3 [(0, .ref (ad 0)), (1, .int (nI k)), (2, .int (nI (57 + 18 * k + x9)))] → W p l e ({ frames := 2, cells := 0, slots := 0, locals := 43 } : Room) s m [.ref (ad 0), .int (nI k)].toArray below meth c H locs 0 0 (MQ below (QW G (mdC G ad M) (some (.int ((mRemove M (nI k)).1))) (mdC G ad ((mRemove M (nI k)).2))) [.ref (ad 0), .int (nI k)].toArray s 0 0 (wA (mdC G ad M))) (F0 m 64 ls []) := by
            intro r
            induction r with
            | zero => intro x9 hr9; exact absurd hr9 (Nat.not_lt_zero _)
            | succ r ih64 =>
              intro x9 hr9 hx9 H locs hP hD hS ls hl
              have h4 : mvN (upd (M 0) 4 (nI (mn (M 0) - 1))) 18 (57 + 18 * k) x9 4 = nI (mn (M 0) - 1) := by rw [mvN_lo _ (by omega)]; rfl
              refine lv_iload_n cx.1 cx.2.1 dX7_remove_64 rfl (lv_at hl 2 rfl) ?_
              refine lv_bipush (v := nI 57) cx.1 cx.2.1 dX7_remove_65 (by decide) ?_
              refine lv_bipush (v := nI 18) cx.1 cx.2.1 dX7_remove_67 (by decide) ?_
              refine lv_aload_n cx.1 cx.2.1 dX7_remove_69 rfl (lv_at hl 0 rfl) ?_
              refine va_get (ci := 6) (C := RX7) (T := TX7) (N := 7) (v := .ref (ad 1)) cx.1 cx.2.1 cx.2.2.2.2 iw_X7_remove_X7 cx.2.2.2.1 hK hP 0 rfl rfl 0 (by decide) (cx.2.2.2.2 _ fw_X7_remove_f7) (fun _ h9 => h9) rfl dX7_remove_70 ?_
              refine lv_iconst (v := nI 4) cx.1 cx.2.1 dX7_remove_73 (by decide) ?_
              refine nv_iald (j := 4) cx hK hP 1 1 rfl rfl (by omega) (by decide) dX7_remove_74 ?_
              refine nv_eqi (y := nI (mn (M 0) - 1)) h4 ?_
              refine nv_imul cx (a := 18) (b := mn (M 0) - 1) dX7_remove_75 ?_
              refine nv_iadd cx (a := 57) (b := 18 * (mn (M 0) - 1)) dX7_remove_76 ?_
              refine nv_icmp_ge (a := 57 + 18 * k + x9) (b := 57 + (18 * (mn (M 0) - 1))) (tgt := 101) cx dX7_remove_77 (by decide) (by omega) (by omega) (fun c_3 => ?_) (fun c_3 => ?_)
              · have et : x9 = 18 * (mn (M 0) - 1 - k) := by omega
                subst et
                refine lv_aload_n cx.1 cx.2.1 dX7_remove_101 rfl (lv_at hl 0 rfl) ?_
                refine va_get (ci := 6) (C := RX7) (T := TX7) (N := 7) (v := .ref (ad 1)) cx.1 cx.2.1 cx.2.2.2.2 iw_X7_remove_X7 cx.2.2.2.1 hK hP 0 rfl rfl 0 (by decide) (cx.2.2.2.2 _ fw_X7_remove_f7) (fun _ h9 => h9) rfl dX7_remove_102 ?_
                refine lv_iconst (v := nI 4) cx.1 cx.2.1 dX7_remove_105 (by decide) ?_
                refine nv_iald (j := 4) cx hK hP 1 1 rfl rfl (by omega) (by decide) dX7_remove_106 ?_
                refine nv_eqi (y := nI (mn (M 0) - 1)) h4 ?_
                exact WR.ret (x := nI (mn (M 0) - 1)) cx hr hlocks dX7_remove_107 (by simp [mRemove, mRemK, ck, tk, hef]) (by simp only [mRemove, mRemK, ck, tk, hef, if_true, if_false, ↓reduceIte, Bool.false_eq_true, Bool.true_eq_false]; exact hP) hS
              · refine lv_aload_n cx.1 cx.2.1 dX7_remove_80 rfl (lv_at hl 0 rfl) ?_
                refine va_get (ci := 6) (C := RX7) (T := TX7) (N := 7) (v := .ref (ad 1)) cx.1 cx.2.1 cx.2.2.2.2 iw_X7_remove_X7 cx.2.2.2.1 hK hP 0 rfl rfl 0 (by decide) (cx.2.2.2.2 _ fw_X7_remove_f7) (fun _ h9 => h9) rfl dX7_remove_81 ?_
                refine lv_iload_n cx.1 cx.2.1 dX7_remove_84 rfl (lv_at hl 2 rfl) ?_
                refine lv_aload_n cx.1 cx.2.1 dX7_remove_85 rfl (lv_at hl 0 rfl) ?_
                refine va_get (ci := 6) (C := RX7) (T := TX7) (N := 7) (v := .ref (ad 1)) cx.1 cx.2.1 cx.2.2.2.2 iw_X7_remove_X7 cx.2.2.2.1 hK hP 0 rfl rfl 0 (by decide) (cx.2.2.2.2 _ fw_X7_remove_f7) (fun _ h9 => h9) rfl dX7_remove_86 ?_
                refine lv_iload_n cx.1 cx.2.1 dX7_remove_89 rfl (lv_at hl 2 rfl) ?_
                refine lv_bipush (v := nI 18) cx.1 cx.2.1 dX7_remove_90 (by decide) ?_
                refine nv_iadd cx (a := 57 + 18 * k + x9) (b := 18) dX7_remove_92 ?_
                refine nv_iald (j := 57 + 18 * k + x9 + 18) cx hK hP 1 1 rfl rfl (by omega) (by decide) dX7_remove_93 ?_
                refine nv_iast (j := 57 + 18 * k + x9) (x := ((va_up (mRec M) 0 (mvN (upd (M 0) 4 (nI (mn (M 0) - 1))) 18 (57 + 18 * k) x9)) 0) (57 + 18 * k + x9 + 18)) cx hK hP hD hS 1 1 rfl rfl (by omega) (by decide) dX7_remove_94 (ws1 := mdC G ad (va_up (va_up (mRec M) 0 (mvN (upd (M 0) 4 (nI (mn (M 0) - 1))) 18 (57 + 18 * k) x9)) 0 (upd ((va_up (mRec M) 0 (mvN (upd (M 0) 4 (nI (mn (M 0) - 1))) 18 (57 + 18 * k) x9)) 0) (57 + 18 * k + x9) (((va_up (mRec M) 0 (mvN (upd (M 0) 4 (nI (mn (M 0) - 1))) 18 (57 + 18 * k) x9)) 0) (57 + 18 * k + x9 + 18))))) rfl (fun H locs hP hD hS => ?_)
                refine lv_iinc (v := nI (57 + 18 * k + x9 + 1)) (lv' := [(2, .int (nI (57 + 18 * k + x9 + 1))), (0, .ref (ad 0)), (1, .int (nI k))]) cx.1 cx.2.1 dX7_remove_95 hl (k := 2) rfl (show nI (57 + 18 * k + x9) + Int32.ofInt 1 = nI (57 + 18 * k + x9 + 1) from nI_add (57 + 18 * k + x9) 1) (by decide) rfl (fun ls hl => ?_)
                refine lv_goto (tgt := 64) cx.1 cx.2.1 dX7_remove_98 (by decide) ?_
                exact ih64 (x9 + 1) (by omega) (by omega) _ _ (by rw [mvN_step _ (by decide)]; exact hP) (hD.fst rfl) hS ls (lv_sub hl [1, 2, 0] rfl)
          exact lp64 _ 0 (Nat.lt_succ_self _) (by omega) H locs (by rw [mvN_0]; exact hP) (hD.fst rfl) hS ls (lv_sub hl [1, 2, 0] rfl)
        · refine lv_aload_n cx.1 cx.2.1 dX7_remove_24 rfl (lv_at hl 1 rfl) ?_
          refine lv_iload_n cx.1 cx.2.1 dX7_remove_25 rfl (lv_at hl 0 rfl) ?_
          refine RO.callV (As := [.int (nI (k + t))]) (rest := []) cx (c_X7_isEngraved l G ad M (k + t) (by omega)) gX7_remove_X7_isEngraved rfl hd_X7_isEngraved ⟨Nat.le_of_ble_eq_true rfl, Nat.le_of_ble_eq_true rfl⟩ (va_recv hK hP (ci := 6) (q0 := 0) rfl rfl) hK hN hP rfl hl.1 rfl (Nat.le_of_ble_eq_true rfl) dX7_remove_26 ⟨Nat.zero_le _, Nat.zero_le _⟩ ?_
          refine nv_ifz (b := decide (mE (M 0) (k + t) = 1)) (tgt := 36) cx dX7_remove_29 (by decide) (fun c_4 => ?_) (fun c_4 => ?_)
          · refine lv_iinc (v := nI (k + t + 1)) (lv' := [(2, .int (nI (k + t + 1))), (0, .ref (ad 0)), (1, .int (nI k))]) cx.1 cx.2.1 dX7_remove_36 hl (k := 0) rfl (show nI (k + t) + Int32.ofInt 1 = nI (k + t + 1) from nI_add (k + t) 1) (by decide) rfl (fun ls hl => ?_)
            refine lv_goto (tgt := 14) cx.1 cx.2.1 dX7_remove_39 (by decide) ?_
            exact ih14 (t + 1) (by omega) (by omega) (lt_s hno (by assumption)) ls (lv_sub hl [0, 1, 2] rfl)
          · have hef : mEf (M 0) k = true := decide_eq_true (by rw [fstN_eq (by omega) hno (fun _ => by assumption)]; omega)
            refine lv_sipush (v := (-1004)) cx.1 cx.2.1 dX7_remove_32 (by decide) ?_
            exact WR.ret (x := (-1004)) cx hr hlocks dX7_remove_35 (by simp [mRemove, mRemK, ck, tk, hef]) (by simp only [mRemove, mRemK, ck, tk, hef, if_true, if_false, ↓reduceIte, Bool.false_eq_true, Bool.true_eq_false]; exact hP) hS
    exact lp14 _ 0 (Nat.lt_succ_self _) (by omega) (fun j hj => absurd hj (Nat.not_lt_zero _)) ls (lv_sub hl [0, 1, 2] rfl)
  · refine lv_sipush (v := (-1001)) cx.1 cx.2.1 dX7_remove_8 (by decide) ?_
    exact WR.ret (x := (-1001)) cx hr hlocks dX7_remove_11 (by simp [mRemove, c_1]) (by simp only [mRemove, c_1, if_true, ↓reduceIte]; exact hP) hS

theorem iw_X7_swap_X7 : ∀ w ∈ wsX70, w ∈ wsX7_swap := fun _ h => List.mem_cons_of_mem _ (List.mem_append_right _ h)
theorem fw_X7_swap_f7 : (Cond.fieldLink RX7 7 "NamePlateModel" "now" "[I") ∈ wsX7_swap := List.mem_of_getElem? (i := 1) rfl
set_option maxHeartbeats 4000000 in
set_option maxRecDepth 100000 in
theorem c_X7_swap (l : Launch) (G : GG) (ad : Nat → Nat) (M : XS) (seat : Int32) (other : Int32) (hkk : okK M) (hok : okM (M 0)) : WR l yX7_swap wsX7_swap 9 197 G (mdC G ad M) [.ref (ad 0), .int seat, .int other] (some (.int ((mSwap M seat other).1))) (mdC G ad ((mSwap M seat other).2)) := by
  refine WR.start (cc := cX7_swap) (maxL := 5) (ret := (some .int)) (by decide) rfl (Nat.le_of_ble_eq_true rfl) ?_
  intro p e s m below meth c ls cx hr hlocks hK hN hP hD hS hl
  have cx : CallFix p m c cX7_swap 5 s [.ref (ad 0), .int seat, .int other].toArray wsX7_swap RX7 := cx
  have hl : lv_has ls 5 [(0, .ref (ad 0)), (1, .int seat), (2, .int other)] := hl
  refine lv_aload_n cx.1 cx.2.1 dX7_swap_0 rfl (lv_at hl 0 rfl) ?_
  refine lv_iload_n cx.1 cx.2.1 dX7_swap_1 rfl (lv_at hl 1 rfl) ?_
  refine RO.callV (As := [.int seat]) (rest := []) cx (c_X7_noSeat l G ad M seat hok) gX7_swap_X7_noSeat rfl hd_X7_noSeat ⟨Nat.le_of_ble_eq_true rfl, Nat.le_of_ble_eq_true rfl⟩ (va_recv hK hP (ci := 6) (q0 := 0) rfl rfl) hK hN hP rfl hl.1 rfl (Nat.le_of_ble_eq_true rfl) dX7_swap_2 ⟨Nat.zero_le _, Nat.zero_le _⟩ ?_
  refine nv_ifnz (b := mNo (M 0) seat) (tgt := 16) cx dX7_swap_5 (by decide) (fun c_1 => ?_) (fun c_1 => ?_)
  · refine lv_sipush (v := (-1001)) cx.1 cx.2.1 dX7_swap_16 (by decide) ?_
    exact WR.ret (x := (-1001)) cx hr hlocks dX7_swap_19 (by first | (simp [mSwap, c_1]; done) | simp [mSwap, ti, c_1]) (by first | (simp only [mSwap, c_1, true_or, if_true, ↓reduceIte]; exact hP) | (simp only [mSwap, c_1, or_true, if_true, ↓reduceIte]; exact hP)) hS
  · obtain ⟨i, hi, rfl⟩ := mNo_no hok.n20 c_1
    have hn20 := hok.n20
    have ci := nI_clamp (show i < 2147483648 by omega)
    have ti := mNo_in hn20 hi
    refine lv_aload_n cx.1 cx.2.1 dX7_swap_8 rfl (lv_at hl 0 rfl) ?_
    refine lv_iload_n cx.1 cx.2.1 dX7_swap_9 rfl (lv_at hl 2 rfl) ?_
    refine RO.callV (As := [.int other]) (rest := []) cx (c_X7_noSeat l G ad M other hok) gX7_swap_X7_noSeat rfl hd_X7_noSeat ⟨Nat.le_of_ble_eq_true rfl, Nat.le_of_ble_eq_true rfl⟩ (va_recv hK hP (ci := 6) (q0 := 0) rfl rfl) hK hN hP rfl hl.1 rfl (Nat.le_of_ble_eq_true rfl) dX7_swap_10 ⟨Nat.zero_le _, Nat.zero_le _⟩ ?_
    refine nv_ifz (b := mNo (M 0) other) (tgt := 20) cx dX7_swap_13 (by decide) (fun c_2 => ?_) (fun c_2 => ?_)
    · obtain ⟨j, hj, rfl⟩ := mNo_no hok.n20 c_2
      have cj := nI_clamp (show j < 2147483648 by omega)
      have tj := mNo_in hn20 hj
      refine lv_aload_n cx.1 cx.2.1 dX7_swap_20 rfl (lv_at hl 0 rfl) ?_
      refine lv_iload_n cx.1 cx.2.1 dX7_swap_21 rfl (lv_at hl 1 rfl) ?_
      refine RO.callV (As := [.int (nI i)]) (rest := []) cx (c_X7_isEngraved l G ad M i (by omega)) gX7_swap_X7_isEngraved rfl hd_X7_isEngraved ⟨Nat.le_of_ble_eq_true rfl, Nat.le_of_ble_eq_true rfl⟩ (va_recv hK hP (ci := 6) (q0 := 0) rfl rfl) hK hN hP rfl hl.1 rfl (Nat.le_of_ble_eq_true rfl) dX7_swap_22 ⟨Nat.zero_le _, Nat.zero_le _⟩ ?_
      refine nv_ifnz (b := decide (mE (M 0) i = 1)) (tgt := 36) cx dX7_swap_25 (by decide) (fun c_3 => ?_) (fun c_3 => ?_)
      · refine lv_sipush (v := (-1004)) cx.1 cx.2.1 dX7_swap_36 (by decide) ?_
        exact WR.ret (x := (-1004)) cx hr hlocks dX7_swap_39 (by first | (simp [mSwap, mSwapK, ci, cj, ti, tj, c_1, c_2, c_3]; done) | (simp only [mSwap, mSwapK, ci, cj, ti, tj, c_1, c_2, c_3, or_self, or_true, true_or, or_false, false_or, if_true, if_false, ↓reduceIte, Bool.false_eq_true, Bool.true_eq_false]; rfl)) (by simp only [mSwap, mSwapK, ci, cj, ti, tj, c_1, c_2, c_3, or_self, or_true, true_or, or_false, false_or, if_true, if_false, ↓reduceIte, Bool.false_eq_true, Bool.true_eq_false]; exact hP) hS
      · refine lv_aload_n cx.1 cx.2.1 dX7_swap_28 rfl (lv_at hl 0 rfl) ?_
        refine lv_iload_n cx.1 cx.2.1 dX7_swap_29 rfl (lv_at hl 2 rfl) ?_
        refine RO.callV (As := [.int (nI j)]) (rest := []) cx (c_X7_isEngraved l G ad M j (by omega)) gX7_swap_X7_isEngraved rfl hd_X7_isEngraved ⟨Nat.le_of_ble_eq_true rfl, Nat.le_of_ble_eq_true rfl⟩ (va_recv hK hP (ci := 6) (q0 := 0) rfl rfl) hK hN hP rfl hl.1 rfl (Nat.le_of_ble_eq_true rfl) dX7_swap_30 ⟨Nat.zero_le _, Nat.zero_le _⟩ ?_
        refine nv_ifz (b := decide (mE (M 0) j = 1)) (tgt := 40) cx dX7_swap_33 (by decide) (fun c_4 => ?_) (fun c_4 => ?_)
        · refine lv_iload_n cx.1 cx.2.1 dX7_swap_40 rfl (lv_at hl 1 rfl) ?_
          refine lv_iload_n cx.1 cx.2.1 dX7_swap_41 rfl (lv_at hl 2 rfl) ?_
          refine nv_icmp_ne (a := i) (b := j) (tgt := 49) cx dX7_swap_42 (by decide) (by omega) (by omega) (fun c_5 => ?_) (fun c_5 => ?_)
          · have hab : 57 + 18 * i + 18 ≤ 57 + 18 * j ∨ 57 + 18 * j + 18 ≤ 57 + 18 * i := by omega
            refine lv_aload_n cx.1 cx.2.1 dX7_swap_49 rfl (lv_at hl 0 rfl) ?_
            refine WR.callV (As := []) (rest := []) cx (c_X7_record l G ad M hkk) gX7_swap_X7_record rfl hd_X7_record ⟨Nat.le_of_ble_eq_true rfl, Nat.le_of_ble_eq_true rfl⟩ (va_recv hK hP (ci := 6) (q0 := 0) rfl rfl) hK hN hP hD hS (fun _ h => h) rfl hl.1 rfl (Nat.le_of_ble_eq_true rfl) dX7_swap_50 ⟨Nat.zero_le _, Nat.zero_le _⟩ (fun H1 locs hP1 hk1 hS => ?_)
            have hP : va_P G.1 vwCl (mdC G ad (mRec M)) H1 := hP1
            have hD : va_D (wA (mdC G ad M)) (mdC G ad (mRec M)) := hD.fst rfl
            generalize H1 = H at hP hS ⊢
            clear hP1 hk1
            refine lv_iconst (v := nI 0) cx.1 cx.2.1 dX7_swap_53 (by decide) ?_
            refine lv_istore_n (lv' := [(3, .int (nI 0)), (0, .ref (ad 0)), (1, .int (nI i)), (2, .int (nI j))]) cx.1 cx.2.1 dX7_swap_54 rfl hl (by decide) rfl (fun ls hl => ?_)
            have lp55 : ∀ (r : Nat) (t : Nat) (hr9 : 18 - t < r) (ht : t ≤ 18) (H : Heap) (locs : List Loc) (hP : va_P G.1 vwCl (mdC G ad (va_up (mRec M) 0 (swR (M 0) (57 + 18 * i) (57 + 18 * j) t))) H) (hD : va_D (wA (mdC G ad M)) (mdC G ad (va_up (mRec M) 0 (swR (M 0) (57 + 18 * i) (57 + 18 * j) t)))) (hS : va_S (wA (mdC G ad M)) s.heap H locs) (ls : Array Slot), lv_has ls 5 [(0, .ref (ad 0)), (1, .int (nI i)), (2, .int (nI j)), (3, .int (nI t))] → W p l e ({ frames := 9, cells := 0, slots := 0, locals := 197 } : Room) s m [.ref (ad 0), .int (nI i), .int (nI j)].toArray below meth c H locs 0 0 (MQ below (QW G (mdC G ad M) (some (.int ((mSwap M (nI i) (nI j)).1))) (mdC G ad ((mSwap M (nI i) (nI j)).2))) [.ref (ad 0), .int (nI i), .int (nI j)].toArray s 0 0 (wA (mdC G ad M))) (F0 m 55 ls []) := by
              intro r
              induction r with
              | zero => intro t hr9; exact absurd hr9 (Nat.not_lt_zero _)
              | succ r ih55 =>
                intro t hr9 ht H locs hP hD hS ls hl
                refine lv_iload_n cx.1 cx.2.1 dX7_swap_55 rfl (lv_at hl 3 rfl) ?_
                refine lv_bipush (v := nI 18) cx.1 cx.2.1 dX7_swap_56 (by decide) ?_
                refine nv_icmp_ge (a := t) (b := 18) (tgt := 111) cx dX7_swap_58 (by decide) (by omega) (by omega) (fun c_6 => ?_) (fun c_6 => ?_)
                · have et : t = 18 := by omega
                  subst et
                  refine lv_aload_n cx.1 cx.2.1 dX7_swap_111 rfl (lv_at hl 0 rfl) ?_
                  refine RO.callV (As := []) (rest := []) cx (c_X7_size l G ad (va_up (mRec M) 0 (swR (M 0) (57 + 18 * i) (57 + 18 * j) (18))) (okM_sw hok hi hj)) gX7_swap_X7_size rfl hd_X7_size ⟨Nat.le_of_ble_eq_true rfl, Nat.le_of_ble_eq_true rfl⟩ (va_recv hK hP (ci := 6) (q0 := 0) rfl rfl) hK hN hP rfl hl.1 rfl (Nat.le_of_ble_eq_true rfl) dX7_swap_112 ⟨Nat.zero_le _, Nat.zero_le _⟩ ?_
                  exact WR.ret (x := mSize ((va_up (mRec M) 0 (swR (M 0) (57 + 18 * i) (57 + 18 * j) (18))) 0)) cx hr hlocks dX7_swap_115 (by first | (simp [mSwap, mSwapK, ci, cj, ti, tj, c_1, c_2, c_3, c_4, c_5, c_6]; done) | (simp only [mSwap, mSwapK, ci, cj, ti, tj, c_1, c_2, c_3, c_4, c_5, c_6, or_self, or_true, true_or, or_false, false_or, if_true, if_false, ↓reduceIte, Bool.false_eq_true, Bool.true_eq_false]; rfl)) (by simp only [mSwap, mSwapK, ci, cj, ti, tj, c_1, c_2, c_3, c_4, c_5, c_6, or_self, or_true, true_or, or_false, false_or, if_true, if_false, ↓reduceIte, Bool.false_eq_true, Bool.true_eq_false]; exact hP) hS
                · refine lv_aload_n cx.1 cx.2.1 dX7_swap_61 rfl (lv_at hl 0 rfl) ?_
                  refine lv_iload_n cx.1 cx.2.1 dX7_swap_62 rfl (lv_at hl 1 rfl) ?_
                  refine lv_iload_n cx.1 cx.2.1 dX7_swap_63 rfl (lv_at hl 3 rfl) ?_
                  refine RO.callV (As := [.int (nI i), .int (nI t)]) (rest := []) cx (c_X7_of l G ad (va_up (mRec M) 0 (swR (M 0) (57 + 18 * i) (57 + 18 * j) t)) i t (by omega)) gX7_swap_X7_of rfl hd_X7_of ⟨Nat.le_of_ble_eq_true rfl, Nat.le_of_ble_eq_true rfl⟩ (va_recv hK hP (ci := 6) (q0 := 0) rfl rfl) hK hN hP rfl hl.1 rfl (Nat.le_of_ble_eq_true rfl) dX7_swap_64 ⟨Nat.zero_le _, Nat.zero_le _⟩ ?_
                  refine lv_istore (lv' := [(4, .int ((va_up (mRec M) 0 (swR (M 0) (57 + 18 * i) (57 + 18 * j) t)) 0 (57 + 18 * i + t))), (0, .ref (ad 0)), (1, .int (nI i)), (2, .int (nI j)), (3, .int (nI t))]) cx.1 cx.2.1 dX7_swap_67 hl (by decide) rfl (fun ls hl => ?_)
                  refine lv_aload_n cx.1 cx.2.1 dX7_swap_69 rfl (lv_at hl 1 rfl) ?_
                  refine va_get (ci := 6) (C := RX7) (T := TX7) (N := 7) (v := .ref (ad 1)) cx.1 cx.2.1 cx.2.2.2.2 iw_X7_swap_X7 cx.2.2.2.1 hK hP 0 rfl rfl 0 (by decide) (cx.2.2.2.2 _ fw_X7_swap_f7) (fun _ h9 => h9) rfl dX7_swap_70 ?_
                  refine lv_bipush (v := nI 57) cx.1 cx.2.1 dX7_swap_73 (by decide) ?_
                  refine lv_bipush (v := nI 18) cx.1 cx.2.1 dX7_swap_75 (by decide) ?_
                  refine lv_iload_n cx.1 cx.2.1 dX7_swap_77 rfl (lv_at hl 2 rfl) ?_
                  refine nv_imul cx (a := 18) (b := i) dX7_swap_78 ?_
                  refine nv_iadd cx (a := 57) (b := 18 * i) dX7_swap_79 ?_
                  refine lv_iload_n cx.1 cx.2.1 dX7_swap_80 rfl (lv_at hl 4 rfl) ?_
                  refine nv_iadd cx (a := 57 + (18 * i)) (b := t) dX7_swap_81 ?_
                  refine lv_aload_n cx.1 cx.2.1 dX7_swap_82 rfl (lv_at hl 1 rfl) ?_
                  refine lv_iload_n cx.1 cx.2.1 dX7_swap_83 rfl (lv_at hl 3 rfl) ?_
                  refine lv_iload_n cx.1 cx.2.1 dX7_swap_84 rfl (lv_at hl 4 rfl) ?_
                  refine RO.callV (As := [.int (nI j), .int (nI t)]) (rest := [.int (nI (57 + (18 * i) + t)), .ref (ad 1)]) cx (c_X7_of l G ad (va_up (mRec M) 0 (swR (M 0) (57 + 18 * i) (57 + 18 * j) t)) j t (by omega)) gX7_swap_X7_of rfl hd_X7_of ⟨Nat.le_of_ble_eq_true rfl, Nat.le_of_ble_eq_true rfl⟩ (va_recv hK hP (ci := 6) (q0 := 0) rfl rfl) hK hN hP rfl hl.1 rfl (Nat.le_of_ble_eq_true rfl) dX7_swap_85 ⟨Nat.zero_le _, Nat.zero_le _⟩ ?_
                  refine nv_iast (j := 57 + (18 * i) + t) (x := (va_up (mRec M) 0 (swR (M 0) (57 + 18 * i) (57 + 18 * j) t)) 0 (57 + 18 * j + t)) cx hK hP hD hS 1 1 rfl rfl (by omega) (by decide) dX7_swap_88 (ws1 := mdC G ad (va_up (va_up (mRec M) 0 (swR (M 0) (57 + 18 * i) (57 + 18 * j) t)) 0 (upd ((va_up (mRec M) 0 (swR (M 0) (57 + 18 * i) (57 + 18 * j) t)) 0) (57 + (18 * i) + t) ((va_up (mRec M) 0 (swR (M 0) (57 + 18 * i) (57 + 18 * j) t)) 0 (57 + 18 * j + t))))) rfl (fun H locs hP hD hS => ?_)
                  refine lv_aload_n cx.1 cx.2.1 dX7_swap_89 rfl (lv_at hl 1 rfl) ?_
                  refine va_get (ci := 6) (C := RX7) (T := TX7) (N := 7) (v := .ref (ad 1)) cx.1 cx.2.1 cx.2.2.2.2 iw_X7_swap_X7 cx.2.2.2.1 hK hP 0 rfl rfl 0 (by decide) (cx.2.2.2.2 _ fw_X7_swap_f7) (fun _ h9 => h9) rfl dX7_swap_90 ?_
                  refine lv_bipush (v := nI 57) cx.1 cx.2.1 dX7_swap_93 (by decide) ?_
                  refine lv_bipush (v := nI 18) cx.1 cx.2.1 dX7_swap_95 (by decide) ?_
                  refine lv_iload_n cx.1 cx.2.1 dX7_swap_97 rfl (lv_at hl 3 rfl) ?_
                  refine nv_imul cx (a := 18) (b := j) dX7_swap_98 ?_
                  refine nv_iadd cx (a := 57) (b := 18 * j) dX7_swap_99 ?_
                  refine lv_iload_n cx.1 cx.2.1 dX7_swap_100 rfl (lv_at hl 4 rfl) ?_
                  refine nv_iadd cx (a := 57 + (18 * j)) (b := t) dX7_swap_101 ?_
                  refine lv_iload cx.1 cx.2.1 dX7_swap_102 (lv_at hl 0 rfl) ?_
                  refine nv_iast (j := 57 + (18 * j) + t) (x := (va_up (mRec M) 0 (swR (M 0) (57 + 18 * i) (57 + 18 * j) t)) 0 (57 + 18 * i + t)) cx hK hP hD hS 1 1 rfl rfl (by omega) (by decide) dX7_swap_104 (ws1 := mdC G ad (va_up (va_up (va_up (mRec M) 0 (swR (M 0) (57 + 18 * i) (57 + 18 * j) t)) 0 (upd ((va_up (mRec M) 0 (swR (M 0) (57 + 18 * i) (57 + 18 * j) t)) 0) (57 + (18 * i) + t) ((va_up (mRec M) 0 (swR (M 0) (57 + 18 * i) (57 + 18 * j) t)) 0 (57 + 18 * j + t)))) 0 (upd ((va_up (va_up (mRec M) 0 (swR (M 0) (57 + 18 * i) (57 + 18 * j) t)) 0 (upd ((va_up (mRec M) 0 (swR (M 0) (57 + 18 * i) (57 + 18 * j) t)) 0) (57 + (18 * i) + t) ((va_up (mRec M) 0 (swR (M 0) (57 + 18 * i) (57 + 18 * j) t)) 0 (57 + 18 * j + t)))) 0) (57 + (18 * j) + t) ((va_up (mRec M) 0 (swR (M 0) (57 + 18 * i) (57 + 18 * j) t)) 0 (57 + 18 * i + t))))) rfl (fun H locs hP hD hS => ?_)
                  refine lv_iinc (v := nI (t + 1)) (lv' := [(3, .int (nI (t + 1))), (4, .int ((va_up (mRec M) 0 (swR (M 0) (57 + 18 * i) (57 + 18 * j) t)) 0 (57 + 18 * i + t))), (0, .ref (ad 0)), (1, .int (nI i)), (2, .int (nI j))]) cx.1 cx.2.1 dX7_swap_105 hl (k := 4) rfl (show nI t + Int32.ofInt 1 = nI (t + 1) from nI_add t 1) (by decide) rfl (fun ls hl => ?_)
                  refine lv_goto (tgt := 55) cx.1 cx.2.1 dX7_swap_108 (by decide) ?_
                  exact ih55 (t + 1) (by omega) (by omega) _ _ (by rw [swR_step hab (by omega)]; exact hP) (hD.fst rfl) hS ls (lv_sub hl [2, 3, 4, 0] rfl)
            exact lp55 _ 0 (Nat.lt_succ_self _) (by omega) H locs (by rw [swR_0]; exact hP) (hD.fst rfl) hS ls (lv_sub hl [1, 2, 3, 0] rfl)
          · refine lv_sipush (v := (-1005)) cx.1 cx.2.1 dX7_swap_45 (by decide) ?_
            exact WR.ret (x := (-1005)) cx hr hlocks dX7_swap_48 (by first | (simp [mSwap, mSwapK, ci, cj, ti, tj, c_1, c_2, c_3, c_4, c_5]; done) | (simp only [mSwap, mSwapK, ci, cj, ti, tj, c_1, c_2, c_3, c_4, c_5, or_self, or_true, true_or, or_false, false_or, if_true, if_false, ↓reduceIte, Bool.false_eq_true, Bool.true_eq_false]; rfl)) (by simp only [mSwap, mSwapK, ci, cj, ti, tj, c_1, c_2, c_3, c_4, c_5, or_self, or_true, true_or, or_false, false_or, if_true, if_false, ↓reduceIte, Bool.false_eq_true, Bool.true_eq_false]; exact hP) hS
        · refine lv_sipush (v := (-1004)) cx.1 cx.2.1 dX7_swap_36 (by decide) ?_
          exact WR.ret (x := (-1004)) cx hr hlocks dX7_swap_39 (by first | (simp [mSwap, mSwapK, ci, cj, ti, tj, c_1, c_2, c_3, c_4]; done) | (simp only [mSwap, mSwapK, ci, cj, ti, tj, c_1, c_2, c_3, c_4, or_self, or_true, true_or, or_false, false_or, if_true, if_false, ↓reduceIte, Bool.false_eq_true, Bool.true_eq_false]; rfl)) (by simp only [mSwap, mSwapK, ci, cj, ti, tj, c_1, c_2, c_3, c_4, or_self, or_true, true_or, or_false, false_or, if_true, if_false, ↓reduceIte, Bool.false_eq_true, Bool.true_eq_false]; exact hP) hS
    · refine lv_sipush (v := (-1001)) cx.1 cx.2.1 dX7_swap_16 (by decide) ?_
      exact WR.ret (x := (-1001)) cx hr hlocks dX7_swap_19 (by first | (simp [mSwap, c_1, c_2]; done) | simp [mSwap, ti, c_1, c_2]) (by first | (simp only [mSwap, c_1, c_2, true_or, if_true, ↓reduceIte]; exact hP) | (simp only [mSwap, c_1, c_2, or_true, if_true, ↓reduceIte]; exact hP)) hS

set_option maxHeartbeats 4000000 in
set_option maxRecDepth 100000 in
theorem c_X7_engrave (l : Launch) (G : GG) (ad : Nat → Nat) (M : XS) (seat : Int32) (hkk : okK M) (hok : okM (M 0)) : WR l yX7_engrave wsX7_engrave 9 197 G (mdC G ad M) [.ref (ad 0), .int seat] (some (.int ((mEng M seat).1))) (mdC G ad ((mEng M seat).2)) := by
  refine WR.start (cc := cX7_engrave) (maxL := 3) (ret := (some .int)) (by decide) rfl (Nat.le_of_ble_eq_true rfl) ?_
  intro p e s m below meth c ls cx hr hlocks hK hN hP hD hS hl
  have cx : CallFix p m c cX7_engrave 3 s [.ref (ad 0), .int seat].toArray wsX7_engrave RX7 := cx
  have hl : lv_has ls 3 [(0, .ref (ad 0)), (1, .int seat)] := hl
  refine lv_aload_n cx.1 cx.2.1 dX7_engrave_0 rfl (lv_at hl 0 rfl) ?_
  refine lv_iload_n cx.1 cx.2.1 dX7_engrave_1 rfl (lv_at hl 1 rfl) ?_
  refine RO.callV (As := [.int seat]) (rest := []) cx (c_X7_noSeat l G ad M seat hok) gX7_engrave_X7_noSeat rfl hd_X7_noSeat ⟨Nat.le_of_ble_eq_true rfl, Nat.le_of_ble_eq_true rfl⟩ (va_recv hK hP (ci := 6) (q0 := 0) rfl rfl) hK hN hP rfl hl.1 rfl (Nat.le_of_ble_eq_true rfl) dX7_engrave_2 ⟨Nat.zero_le _, Nat.zero_le _⟩ ?_
  refine nv_ifz (b := mNo (M 0) seat) (tgt := 12) cx dX7_engrave_5 (by decide) (fun c_1 => ?_) (fun c_1 => ?_)
  · obtain ⟨k, hk, rfl⟩ := mNo_no hok.n20 c_1
    have hn20 := hok.n20
    have ck := nI_clamp (show k < 2147483648 by omega)
    have tk := mNo_in hn20 hk
    refine lv_aload_n cx.1 cx.2.1 dX7_engrave_12 rfl (lv_at hl 0 rfl) ?_
    refine RO.callV (As := []) (rest := []) cx (c_X7_size l G ad M hok) gX7_engrave_X7_size rfl hd_X7_size ⟨Nat.le_of_ble_eq_true rfl, Nat.le_of_ble_eq_true rfl⟩ (va_recv hK hP (ci := 6) (q0 := 0) rfl rfl) hK hN hP rfl hl.1 rfl (Nat.le_of_ble_eq_true rfl) dX7_engrave_13 ⟨Nat.zero_le _, Nat.zero_le _⟩ ?_
    refine lv_istore_n (lv' := [(2, .int (mSize (M 0))), (0, .ref (ad 0)), (1, .int (nI k))]) cx.1 cx.2.1 dX7_engrave_16 rfl hl (by decide) rfl (fun ls hl => ?_)
    refine lv_aload_n cx.1 cx.2.1 dX7_engrave_17 rfl (lv_at hl 1 rfl) ?_
    refine lv_iload_n cx.1 cx.2.1 dX7_engrave_18 rfl (lv_at hl 2 rfl) ?_
    refine lv_iload_n cx.1 cx.2.1 dX7_engrave_19 rfl (lv_at hl 0 rfl) ?_
    refine RO.callV (As := [.int (nI k), .int (mSize (M 0))]) (rest := []) cx (c_X7_fits l G ad M k (mSize (M 0)) hok (by omega)) gX7_engrave_X7_fits rfl hd_X7_fits ⟨Nat.le_of_ble_eq_true rfl, Nat.le_of_ble_eq_true rfl⟩ (va_recv hK hP (ci := 6) (q0 := 0) rfl rfl) hK hN hP rfl hl.1 rfl (Nat.le_of_ble_eq_true rfl) dX7_engrave_20 ⟨Nat.zero_le _, Nat.zero_le _⟩ ?_
    refine nv_ifnz (b := mFits (M 0) k (mSize (M 0))) (tgt := 30) cx dX7_engrave_23 (by decide) (fun c_2 => ?_) (fun c_2 => ?_)
    · refine lv_aload_n cx.1 cx.2.1 dX7_engrave_30 rfl (lv_at hl 1 rfl) ?_
      refine lv_iload_n cx.1 cx.2.1 dX7_engrave_31 rfl (lv_at hl 2 rfl) ?_
      refine RO.callV (As := [.int (nI k)]) (rest := []) cx (c_X7_isEngraved l G ad M k (by omega)) gX7_engrave_X7_isEngraved rfl hd_X7_isEngraved ⟨Nat.le_of_ble_eq_true rfl, Nat.le_of_ble_eq_true rfl⟩ (va_recv hK hP (ci := 6) (q0 := 0) rfl rfl) hK hN hP rfl hl.1 rfl (Nat.le_of_ble_eq_true rfl) dX7_engrave_32 ⟨Nat.zero_le _, Nat.zero_le _⟩ ?_
      refine nv_ifz (b := decide (mE (M 0) k = 1)) (tgt := 42) cx dX7_engrave_35 (by decide) (fun c_3 => ?_) (fun c_3 => ?_)
      · refine lv_aload_n cx.1 cx.2.1 dX7_engrave_42 rfl (lv_at hl 1 rfl) ?_
        refine WR.callV (As := []) (rest := []) cx (c_X7_record l G ad M hkk) gX7_engrave_X7_record rfl hd_X7_record ⟨Nat.le_of_ble_eq_true rfl, Nat.le_of_ble_eq_true rfl⟩ (va_recv hK hP (ci := 6) (q0 := 0) rfl rfl) hK hN hP hD hS (fun _ h => h) rfl hl.1 rfl (Nat.le_of_ble_eq_true rfl) dX7_engrave_43 ⟨Nat.zero_le _, Nat.zero_le _⟩ (fun H1 locs hP1 hk1 hS => ?_)
        have hP : va_P G.1 vwCl (mdC G ad (mRec M)) H1 := hP1
        have hD : va_D (wA (mdC G ad M)) (mdC G ad (mRec M)) := hD.fst rfl
        generalize H1 = H at hP hS ⊢
        clear hP1 hk1
        refine lv_aload_n cx.1 cx.2.1 dX7_engrave_46 rfl (lv_at hl 1 rfl) ?_
        refine lv_iload_n cx.1 cx.2.1 dX7_engrave_47 rfl (lv_at hl 2 rfl) ?_
        refine lv_iload_n cx.1 cx.2.1 dX7_engrave_48 rfl (lv_at hl 0 rfl) ?_
        refine WR.callV (As := [.int (nI k), .int (mSize (M 0))]) (rest := []) cx (c_X7_engraves l G ad (mRec M) k (mSize (M 0)) (by omega)) gX7_engrave_X7_engraves rfl hd_X7_engraves ⟨Nat.le_of_ble_eq_true rfl, Nat.le_of_ble_eq_true rfl⟩ (va_recv hK hP (ci := 6) (q0 := 0) rfl rfl) hK hN hP hD hS (fun _ h => h) rfl hl.1 rfl (Nat.le_of_ble_eq_true rfl) dX7_engrave_49 ⟨Nat.zero_le _, Nat.zero_le _⟩ (fun H1 locs hP1 hk1 hS => ?_)
        have hP : va_P G.1 vwCl (mdC G ad (va_up (mRec M) 0 (mEg ((mRec M) 0) k (mSize (M 0))))) H1 := hP1
        have hD : va_D (wA (mdC G ad M)) (mdC G ad (va_up (mRec M) 0 (mEg ((mRec M) 0) k (mSize (M 0))))) := hD.fst rfl
        generalize H1 = H at hP hS ⊢
        clear hP1 hk1
        refine lv_aload_n cx.1 cx.2.1 dX7_engrave_52 rfl (lv_at hl 1 rfl) ?_
        refine lv_iload_n cx.1 cx.2.1 dX7_engrave_53 rfl (lv_at hl 2 rfl) ?_
        refine lv_iload_n cx.1 cx.2.1 dX7_engrave_54 rfl (lv_at hl 0 rfl) ?_
        refine RO.callV (As := [.int (nI k), .int (mSize (M 0))]) (rest := []) cx (c_X7_begin l G ad (va_up (mRec M) 0 (mEg ((mRec M) 0) k (mSize (M 0)))) k (mSize (M 0)) (okM_eg hok _ _) (mn_egl hk)) gX7_engrave_X7_begin rfl hd_X7_begin ⟨Nat.le_of_ble_eq_true rfl, Nat.le_of_ble_eq_true rfl⟩ (va_recv hK hP (ci := 6) (q0 := 0) rfl rfl) hK hN hP rfl hl.1 rfl (Nat.le_of_ble_eq_true rfl) dX7_engrave_55 ⟨Nat.zero_le _, Nat.zero_le _⟩ ?_
        exact WR.ret (x := mBeg ((va_up (mRec M) 0 (mEg ((mRec M) 0) k (mSize (M 0)))) 0) k (mSize (M 0))) cx hr hlocks dX7_engrave_58 (by first | (simp [mEng, mEngK, ck, tk, c_1, c_2, c_3]; done) | (simp only [mEng, mEngK, ck, tk, c_1, c_2, c_3, if_true, if_false, ↓reduceIte, Bool.false_eq_true, Bool.true_eq_false]; rfl)) (by simp only [mEng, mEngK, ck, tk, c_1, c_2, c_3, if_true, if_false, ↓reduceIte, Bool.false_eq_true, Bool.true_eq_false]; exact hP) hS
      · refine lv_sipush (v := (-1005)) cx.1 cx.2.1 dX7_engrave_38 (by decide) ?_
        exact WR.ret (x := (-1005)) cx hr hlocks dX7_engrave_41 (by first | (simp [mEng, mEngK, ck, tk, c_1, c_2, c_3]; done) | (simp only [mEng, mEngK, ck, tk, c_1, c_2, c_3, if_true, if_false, ↓reduceIte, Bool.false_eq_true, Bool.true_eq_false]; rfl)) (by simp only [mEng, mEngK, ck, tk, c_1, c_2, c_3, if_true, if_false, ↓reduceIte, Bool.false_eq_true, Bool.true_eq_false]; exact hP) hS
    · refine lv_sipush (v := (-1004)) cx.1 cx.2.1 dX7_engrave_26 (by decide) ?_
      exact WR.ret (x := (-1004)) cx hr hlocks dX7_engrave_29 (by first | (simp [mEng, mEngK, ck, tk, c_1, c_2]; done) | (simp only [mEng, mEngK, ck, tk, c_1, c_2, if_true, if_false, ↓reduceIte, Bool.false_eq_true, Bool.true_eq_false]; rfl)) (by simp only [mEng, mEngK, ck, tk, c_1, c_2, if_true, if_false, ↓reduceIte, Bool.false_eq_true, Bool.true_eq_false]; exact hP) hS
  · refine lv_sipush (v := (-1001)) cx.1 cx.2.1 dX7_engrave_8 (by decide) ?_
    exact WR.ret (x := (-1001)) cx hr hlocks dX7_engrave_11 (by simp [mEng, c_1]) (by simp only [mEng, c_1, if_true, ↓reduceIte]; exact hP) hS

theorem iw_X7_engraveAll_X7 : ∀ w ∈ wsX70, w ∈ wsX7_engraveAll := fun _ h => List.mem_cons_of_mem _ (List.mem_append_right _ h)
theorem fw_X7_engraveAll_f7 : (Cond.fieldLink RX7 7 "NamePlateModel" "now" "[I") ∈ wsX7_engraveAll := List.mem_of_getElem? (i := 1) rfl
set_option maxHeartbeats 4000000 in
set_option maxRecDepth 100000 in
theorem c_X7_engraveAll (l : Launch) (G : GG) (ad : Nat → Nat) (M : XS)  (hkk : okK M) (hok : okM (M 0)) : WR l yX7_engraveAll wsX7_engraveAll 9 197 G (mdC G ad M) [.ref (ad 0)] (some (.int ((mEngA M).1))) (mdC G ad ((mEngA M).2)) := by
  refine WR.start (cc := cX7_engraveAll) (maxL := 4) (ret := (some .int)) (by decide) rfl (Nat.le_of_ble_eq_true rfl) ?_
  intro p e s m below meth c ls cx hr hlocks hK hN hP hD hS hl
  have cx : CallFix p m c cX7_engraveAll 4 s [.ref (ad 0)].toArray wsX7_engraveAll RX7 := cx
  have hl : lv_has ls 4 [(0, .ref (ad 0))] := hl
  have hn20 := hok.n20
  have hcl := mEc_le (M 0) (mSize (M 0))
  refine lv_aload_n cx.1 cx.2.1 dX7_engraveAll_0 rfl (lv_at hl 0 rfl) ?_
  refine RO.callV (As := []) (rest := []) cx (c_X7_size l G ad M hok) gX7_engraveAll_X7_size rfl hd_X7_size ⟨Nat.le_of_ble_eq_true rfl, Nat.le_of_ble_eq_true rfl⟩ (va_recv hK hP (ci := 6) (q0 := 0) rfl rfl) hK hN hP rfl hl.1 rfl (Nat.le_of_ble_eq_true rfl) dX7_engraveAll_1 ⟨Nat.zero_le _, Nat.zero_le _⟩ ?_
  refine lv_istore_n (lv' := [(1, .int (mSize (M 0))), (0, .ref (ad 0))]) cx.1 cx.2.1 dX7_engraveAll_4 rfl hl (by decide) rfl (fun ls hl => ?_)
  refine lv_iconst (v := nI 0) cx.1 cx.2.1 dX7_engraveAll_5 (by decide) ?_
  refine lv_istore_n (lv' := [(2, .int (nI 0)), (1, .int (mSize (M 0))), (0, .ref (ad 0))]) cx.1 cx.2.1 dX7_engraveAll_6 rfl hl (by decide) rfl (fun ls hl => ?_)
  refine lv_iconst (v := nI 0) cx.1 cx.2.1 dX7_engraveAll_7 (by decide) ?_
  refine lv_istore_n (lv' := [(3, .int (nI 0)), (2, .int (nI 0)), (1, .int (mSize (M 0))), (0, .ref (ad 0))]) cx.1 cx.2.1 dX7_engraveAll_8 rfl hl (by decide) rfl (fun ls hl => ?_)
  have lp9 : ∀ (r : Nat) (k : Nat) (hr9 : mn (M 0) - k < r) (hk9 : k ≤ mn (M 0)) (ls : Array Slot), lv_has ls 4 [(0, .ref (ad 0)), (1, .int (mSize (M 0))), (2, .int (nI (mEc (M 0) (mSize (M 0)) k))), (3, .int (nI k))] → W p l e ({ frames := 9, cells := 0, slots := 0, locals := 197 } : Room) s m [.ref (ad 0)].toArray below meth c s.heap [] 0 0 (MQ below (QW G (mdC G ad M) (some (.int ((mEngA M).1))) (mdC G ad ((mEngA M).2))) [.ref (ad 0)].toArray s 0 0 (wA (mdC G ad M))) (F0 m 9 ls []) := by
    intro r
    induction r with
    | zero => intro k hr9; exact absurd hr9 (Nat.not_lt_zero _)
    | succ r ih9 =>
      intro k hr9 hk9 ls hl
      have hclk := hcl k
      refine lv_iload_n cx.1 cx.2.1 dX7_engraveAll_9 rfl (lv_at hl 3 rfl) ?_
      refine lv_aload_n cx.1 cx.2.1 dX7_engraveAll_10 rfl (lv_at hl 0 rfl) ?_
      refine va_get (ci := 6) (C := RX7) (T := TX7) (N := 7) (v := .ref (ad 1)) cx.1 cx.2.1 cx.2.2.2.2 iw_X7_engraveAll_X7 cx.2.2.2.1 hK hP 0 rfl rfl 0 (by decide) (cx.2.2.2.2 _ fw_X7_engraveAll_f7) (fun _ h9 => h9) rfl dX7_engraveAll_11 ?_
      refine lv_iconst (v := nI 4) cx.1 cx.2.1 dX7_engraveAll_14 (by decide) ?_
      refine nv_iald (j := 4) cx hK hP 1 1 rfl rfl (by omega) (by decide) dX7_engraveAll_15 ?_
      refine nv_eqi (y := nI (mn (M 0))) hok.n ?_
      refine nv_icmp_ge (a := k) (b := mn (M 0)) (tgt := 50) cx dX7_engraveAll_16 (by decide) (by omega) (by omega) (fun c_1 => ?_) (fun c_1 => ?_)
      · have et : k = mn (M 0) := by omega
        subst et
        refine lv_iload_n cx.1 cx.2.1 dX7_engraveAll_50 rfl (lv_at hl 2 rfl) ?_
        refine nv_if_ne (a := mEc (M 0) (mSize (M 0)) (mn (M 0))) (tgt := 58) cx dX7_engraveAll_51 (by decide) (by omega) (fun c_2 => ?_) (fun c_2 => ?_)
        · refine lv_aload_n cx.1 cx.2.1 dX7_engraveAll_58 rfl (lv_at hl 0 rfl) ?_
          refine WR.callV (As := []) (rest := []) cx (c_X7_record l G ad M hkk) gX7_engraveAll_X7_record rfl hd_X7_record ⟨Nat.le_of_ble_eq_true rfl, Nat.le_of_ble_eq_true rfl⟩ (va_recv hK hP (ci := 6) (q0 := 0) rfl rfl) hK hN hP hD hS (fun _ h => h) rfl hl.1 rfl (Nat.le_of_ble_eq_true rfl) dX7_engraveAll_59 ⟨Nat.zero_le _, Nat.zero_le _⟩ (fun H1 locs hP1 hk1 hS => ?_)
          have hP : va_P G.1 vwCl (mdC G ad (mRec M)) H1 := hP1
          have hD : va_D (wA (mdC G ad M)) (mdC G ad (mRec M)) := hD.fst rfl
          generalize H1 = H at hP hS ⊢
          clear hP1 hk1
          refine lv_iconst (v := nI 0) cx.1 cx.2.1 dX7_engraveAll_62 (by decide) ?_
          refine lv_istore_n (lv' := [(3, .int (nI 0)), (0, .ref (ad 0)), (1, .int (mSize (M 0))), (2, .int (nI (mEc (M 0) (mSize (M 0)) (mn (M 0)))))]) cx.1 cx.2.1 dX7_engraveAll_63 rfl hl (by decide) rfl (fun ls hl => ?_)
          have lp64 : ∀ (r : Nat) (t : Nat) (hr9 : mn (M 0) - t < r) (ht9 : t ≤ mn (M 0)) (H : Heap) (locs : List Loc) (hP : va_P G.1 vwCl (mdC G ad (va_up (mRec M) 0 (mEa (M 0) (mSize (M 0)) t))) H) (hD : va_D (wA (mdC G ad M)) (mdC G ad (va_up (mRec M) 0 (mEa (M 0) (mSize (M 0)) t)))) (hS : va_S (wA (mdC G ad M)) s.heap H locs) (ls : Array Slot), lv_has ls 4 [(0, .ref (ad 0)), (1, .int (mSize (M 0))), (2, .int (nI (mEc (M 0) (mSize (M 0)) (mn (M 0))))), (3, .int (nI t))] → W p l e ({ frames := 9, cells := 0, slots := 0, locals := 197 } : Room) s m [.ref (ad 0)].toArray below meth c H locs 0 0 (MQ below (QW G (mdC G ad M) (some (.int ((mEngA M).1))) (mdC G ad ((mEngA M).2))) [.ref (ad 0)].toArray s 0 0 (wA (mdC G ad M))) (F0 m 64 ls []) := by
            intro r
            induction r with
            | zero => intro t hr9; exact absurd hr9 (Nat.not_lt_zero _)
            | succ r ih64 =>
              intro t hr9 ht9 H locs hP hD hS ls hl
              have hokt := okM_ea hok (mSize (M 0)) t
              have hnt := mn_ea (M 0) (mSize (M 0)) t
              have h4 : mEa (M 0) (mSize (M 0)) t 4 = nI (mn (M 0)) := by rw [hokt.n, hnt]
              refine lv_iload_n cx.1 cx.2.1 dX7_engraveAll_64 rfl (lv_at hl 3 rfl) ?_
              refine lv_aload_n cx.1 cx.2.1 dX7_engraveAll_65 rfl (lv_at hl 0 rfl) ?_
              refine va_get (ci := 6) (C := RX7) (T := TX7) (N := 7) (v := .ref (ad 1)) cx.1 cx.2.1 cx.2.2.2.2 iw_X7_engraveAll_X7 cx.2.2.2.1 hK hP 0 rfl rfl 0 (by decide) (cx.2.2.2.2 _ fw_X7_engraveAll_f7) (fun _ h9 => h9) rfl dX7_engraveAll_66 ?_
              refine lv_iconst (v := nI 4) cx.1 cx.2.1 dX7_engraveAll_69 (by decide) ?_
              refine nv_iald (j := 4) cx hK hP 1 1 rfl rfl (by omega) (by decide) dX7_engraveAll_70 ?_
              refine nv_eqi (y := nI (mn (M 0))) h4 ?_
              refine nv_icmp_ge (a := t) (b := mn (M 0)) (tgt := 103) cx dX7_engraveAll_71 (by decide) (by omega) (by omega) (fun c_3 => ?_) (fun c_3 => ?_)
              · have et2 : t = mn (M 0) := by omega
                subst et2
                refine lv_iload_n cx.1 cx.2.1 dX7_engraveAll_103 rfl (lv_at hl 2 rfl) ?_
                exact WR.ret (x := nI (mEc (M 0) (mSize (M 0)) (mn (M 0)))) cx hr hlocks dX7_engraveAll_104 (by first | (simp [mEngA, c_1, c_2, c_3]; done)) (by simp only [mEngA, c_1, c_2, c_3, if_true, if_false, ↓reduceIte]; exact hP) hS
              · refine lv_aload_n cx.1 cx.2.1 dX7_engraveAll_74 rfl (lv_at hl 0 rfl) ?_
                refine lv_iload_n cx.1 cx.2.1 dX7_engraveAll_75 rfl (lv_at hl 3 rfl) ?_
                refine RO.callV (As := [.int (nI t)]) (rest := []) cx (c_X7_isEngraved l G ad (va_up (mRec M) 0 (mEa (M 0) (mSize (M 0)) t)) t (by omega)) gX7_engraveAll_X7_isEngraved rfl hd_X7_isEngraved ⟨Nat.le_of_ble_eq_true rfl, Nat.le_of_ble_eq_true rfl⟩ (va_recv hK hP (ci := 6) (q0 := 0) rfl rfl) hK hN hP rfl hl.1 rfl (Nat.le_of_ble_eq_true rfl) dX7_engraveAll_76 ⟨Nat.zero_le _, Nat.zero_le _⟩ ?_
                refine nv_ifnz (b := decide (mE ((va_up (mRec M) 0 (mEa (M 0) (mSize (M 0)) t)) 0) t = 1)) (tgt := 97) cx dX7_engraveAll_79 (by decide) (fun c_4 => ?_) (fun c_4 => ?_)
                · refine lv_iinc (v := nI (t + 1)) (lv' := [(3, .int (nI (t + 1))), (0, .ref (ad 0)), (1, .int (mSize (M 0))), (2, .int (nI (mEc (M 0) (mSize (M 0)) (mn (M 0)))))]) cx.1 cx.2.1 dX7_engraveAll_97 hl (k := 3) rfl (show nI t + Int32.ofInt 1 = nI (t + 1) from nI_add t 1) (by decide) rfl (fun ls hl => ?_)
                  refine lv_goto (tgt := 64) cx.1 cx.2.1 dX7_engraveAll_100 (by decide) ?_
                  exact ih64 (t + 1) (by omega) (by omega) _ _ (by first | (rw [show mEa (M 0) (mSize (M 0)) (t + 1) = mEg (mEa (M 0) (mSize (M 0)) t) t (mSize (M 0)) from if_pos ⟨by assumption, by assumption⟩]; exact hP) | (rw [show mEa (M 0) (mSize (M 0)) (t + 1) = mEa (M 0) (mSize (M 0)) t from if_neg (fun q => by have q1 := q.1; rw [show decide (mE (mEa (M 0) (mSize (M 0)) t) t = 1) = true by assumption] at q1; cases q1)]; exact hP) | (rw [show mEa (M 0) (mSize (M 0)) (t + 1) = mEa (M 0) (mSize (M 0)) t from if_neg (fun q => by have q1 := q.2; rw [show mFits (mEa (M 0) (mSize (M 0)) t) t (mSize (M 0)) = false by assumption] at q1; cases q1)]; exact hP)) (hD.fst rfl) hS ls (lv_sub hl [1, 2, 3, 0] rfl)
                · refine lv_aload_n cx.1 cx.2.1 dX7_engraveAll_82 rfl (lv_at hl 0 rfl) ?_
                  refine lv_iload_n cx.1 cx.2.1 dX7_engraveAll_83 rfl (lv_at hl 3 rfl) ?_
                  refine lv_iload_n cx.1 cx.2.1 dX7_engraveAll_84 rfl (lv_at hl 1 rfl) ?_
                  refine RO.callV (As := [.int (nI t), .int (mSize (M 0))]) (rest := []) cx (c_X7_fits l G ad (va_up (mRec M) 0 (mEa (M 0) (mSize (M 0)) t)) t (mSize (M 0)) hokt (by show t < mn (mEa (M 0) (mSize (M 0)) t); rw [hnt]; omega)) gX7_engraveAll_X7_fits rfl hd_X7_fits ⟨Nat.le_of_ble_eq_true rfl, Nat.le_of_ble_eq_true rfl⟩ (va_recv hK hP (ci := 6) (q0 := 0) rfl rfl) hK hN hP rfl hl.1 rfl (Nat.le_of_ble_eq_true rfl) dX7_engraveAll_85 ⟨Nat.zero_le _, Nat.zero_le _⟩ ?_
                  refine nv_ifz (b := mFits ((va_up (mRec M) 0 (mEa (M 0) (mSize (M 0)) t)) 0) t (mSize (M 0))) (tgt := 97) cx dX7_engraveAll_88 (by decide) (fun c_5 => ?_) (fun c_5 => ?_)
                  · refine lv_iinc (v := nI (t + 1)) (lv' := [(3, .int (nI (t + 1))), (0, .ref (ad 0)), (1, .int (mSize (M 0))), (2, .int (nI (mEc (M 0) (mSize (M 0)) (mn (M 0)))))]) cx.1 cx.2.1 dX7_engraveAll_97 hl (k := 3) rfl (show nI t + Int32.ofInt 1 = nI (t + 1) from nI_add t 1) (by decide) rfl (fun ls hl => ?_)
                    refine lv_goto (tgt := 64) cx.1 cx.2.1 dX7_engraveAll_100 (by decide) ?_
                    exact ih64 (t + 1) (by omega) (by omega) _ _ (by first | (rw [show mEa (M 0) (mSize (M 0)) (t + 1) = mEg (mEa (M 0) (mSize (M 0)) t) t (mSize (M 0)) from if_pos ⟨by assumption, by assumption⟩]; exact hP) | (rw [show mEa (M 0) (mSize (M 0)) (t + 1) = mEa (M 0) (mSize (M 0)) t from if_neg (fun q => by have q1 := q.1; rw [show decide (mE (mEa (M 0) (mSize (M 0)) t) t = 1) = true by assumption] at q1; cases q1)]; exact hP) | (rw [show mEa (M 0) (mSize (M 0)) (t + 1) = mEa (M 0) (mSize (M 0)) t from if_neg (fun q => by have q1 := q.2; rw [show mFits (mEa (M 0) (mSize (M 0)) t) t (mSize (M 0)) = false by assumption] at q1; cases q1)]; exact hP)) (hD.fst rfl) hS ls (lv_sub hl [1, 2, 3, 0] rfl)
                  · refine lv_aload_n cx.1 cx.2.1 dX7_engraveAll_91 rfl (lv_at hl 0 rfl) ?_
                    refine lv_iload_n cx.1 cx.2.1 dX7_engraveAll_92 rfl (lv_at hl 3 rfl) ?_
                    refine lv_iload_n cx.1 cx.2.1 dX7_engraveAll_93 rfl (lv_at hl 1 rfl) ?_
                    refine WR.callV (As := [.int (nI t), .int (mSize (M 0))]) (rest := []) cx (c_X7_engraves l G ad (va_up (mRec M) 0 (mEa (M 0) (mSize (M 0)) t)) t (mSize (M 0)) (by omega)) gX7_engraveAll_X7_engraves rfl hd_X7_engraves ⟨Nat.le_of_ble_eq_true rfl, Nat.le_of_ble_eq_true rfl⟩ (va_recv hK hP (ci := 6) (q0 := 0) rfl rfl) hK hN hP hD hS (fun _ h => h) rfl hl.1 rfl (Nat.le_of_ble_eq_true rfl) dX7_engraveAll_94 ⟨Nat.zero_le _, Nat.zero_le _⟩ (fun H1 locs hP1 hk1 hS => ?_)
                    have hP : va_P G.1 vwCl (mdC G ad (va_up (va_up (mRec M) 0 (mEa (M 0) (mSize (M 0)) t)) 0 (mEg ((va_up (mRec M) 0 (mEa (M 0) (mSize (M 0)) t)) 0) t (mSize (M 0))))) H1 := hP1
                    have hD : va_D (wA (mdC G ad M)) (mdC G ad (va_up (va_up (mRec M) 0 (mEa (M 0) (mSize (M 0)) t)) 0 (mEg ((va_up (mRec M) 0 (mEa (M 0) (mSize (M 0)) t)) 0) t (mSize (M 0))))) := hD.fst rfl
                    generalize H1 = H at hP hS ⊢
                    clear hP1 hk1
                    refine lv_iinc (v := nI (t + 1)) (lv' := [(3, .int (nI (t + 1))), (0, .ref (ad 0)), (1, .int (mSize (M 0))), (2, .int (nI (mEc (M 0) (mSize (M 0)) (mn (M 0)))))]) cx.1 cx.2.1 dX7_engraveAll_97 hl (k := 3) rfl (show nI t + Int32.ofInt 1 = nI (t + 1) from nI_add t 1) (by decide) rfl (fun ls hl => ?_)
                    refine lv_goto (tgt := 64) cx.1 cx.2.1 dX7_engraveAll_100 (by decide) ?_
                    exact ih64 (t + 1) (by omega) (by omega) _ _ (by first | (rw [show mEa (M 0) (mSize (M 0)) (t + 1) = mEg (mEa (M 0) (mSize (M 0)) t) t (mSize (M 0)) from if_pos ⟨by assumption, by assumption⟩]; exact hP) | (rw [show mEa (M 0) (mSize (M 0)) (t + 1) = mEa (M 0) (mSize (M 0)) t from if_neg (fun q => by have q1 := q.1; rw [show decide (mE (mEa (M 0) (mSize (M 0)) t) t = 1) = true by assumption] at q1; cases q1)]; exact hP) | (rw [show mEa (M 0) (mSize (M 0)) (t + 1) = mEa (M 0) (mSize (M 0)) t from if_neg (fun q => by have q1 := q.2; rw [show mFits (mEa (M 0) (mSize (M 0)) t) t (mSize (M 0)) = false by assumption] at q1; cases q1)]; exact hP)) (hD.fst rfl) hS ls (lv_sub hl [1, 2, 3, 0] rfl)
          exact lp64 _ 0 (Nat.lt_succ_self _) (by omega) H locs hP (hD.fst rfl) hS ls (lv_sub hl [1, 2, 3, 0] rfl)
        · refine lv_sipush (v := (-1005)) cx.1 cx.2.1 dX7_engraveAll_54 (by decide) ?_
          exact WR.ret (x := (-1005)) cx hr hlocks dX7_engraveAll_57 (by first | (simp [mEngA, c_1, c_2]; done)) (by simp only [mEngA, c_1, c_2, if_true, if_false, ↓reduceIte]; exact hP) hS
      · refine lv_iload_n cx.1 cx.2.1 dX7_engraveAll_19 rfl (lv_at hl 2 rfl) ?_
        refine lv_aload_n cx.1 cx.2.1 dX7_engraveAll_20 rfl (lv_at hl 0 rfl) ?_
        refine lv_iload_n cx.1 cx.2.1 dX7_engraveAll_21 rfl (lv_at hl 3 rfl) ?_
        refine RO.callV (As := [.int (nI k)]) (rest := [.int (nI (mEc (M 0) (mSize (M 0)) k))]) cx (c_X7_isEngraved l G ad M k (by omega)) gX7_engraveAll_X7_isEngraved rfl hd_X7_isEngraved ⟨Nat.le_of_ble_eq_true rfl, Nat.le_of_ble_eq_true rfl⟩ (va_recv hK hP (ci := 6) (q0 := 0) rfl rfl) hK hN hP rfl hl.1 rfl (Nat.le_of_ble_eq_true rfl) dX7_engraveAll_22 ⟨Nat.zero_le _, Nat.zero_le _⟩ ?_
        refine nv_ifnz (b := decide (mE (M 0) k = 1)) (tgt := 41) cx dX7_engraveAll_25 (by decide) (fun c_6 => ?_) (fun c_6 => ?_)
        · refine lv_iconst (v := nI 0) cx.1 cx.2.1 dX7_engraveAll_41 (by decide) ?_
          refine nv_iadd cx (a := mEc (M 0) (mSize (M 0)) k) (b := 0) dX7_engraveAll_42 ?_
          refine lv_istore_n (lv' := [(2, .int (nI (mEc (M 0) (mSize (M 0)) k + 0))), (0, .ref (ad 0)), (1, .int (mSize (M 0))), (3, .int (nI k))]) cx.1 cx.2.1 dX7_engraveAll_43 rfl hl (by decide) rfl (fun ls hl => ?_)
          refine lv_iinc (v := nI (k + 1)) (lv' := [(3, .int (nI (k + 1))), (2, .int (nI (mEc (M 0) (mSize (M 0)) k + 0))), (0, .ref (ad 0)), (1, .int (mSize (M 0)))]) cx.1 cx.2.1 dX7_engraveAll_44 hl (k := 3) rfl (show nI k + Int32.ofInt 1 = nI (k + 1) from nI_add k 1) (by decide) rfl (fun ls hl => ?_)
          refine lv_goto (tgt := 9) cx.1 cx.2.1 dX7_engraveAll_47 (by decide) ?_
          have e2 : nI (mEc (M 0) (mSize (M 0)) (k + 1)) = nI (mEc (M 0) (mSize (M 0)) k + 0) := by simp [mEc, c_1, c_6]
          exact ih9 (k + 1) (by omega) (by omega) ls (lv_sub hl [2, 3, 1, 0] (by rw [e2]; rfl))
        · refine lv_aload_n cx.1 cx.2.1 dX7_engraveAll_28 rfl (lv_at hl 0 rfl) ?_
          refine lv_iload_n cx.1 cx.2.1 dX7_engraveAll_29 rfl (lv_at hl 3 rfl) ?_
          refine lv_iload_n cx.1 cx.2.1 dX7_engraveAll_30 rfl (lv_at hl 1 rfl) ?_
          refine RO.callV (As := [.int (nI k), .int (mSize (M 0))]) (rest := [.int (nI (mEc (M 0) (mSize (M 0)) k))]) cx (c_X7_fits l G ad M k (mSize (M 0)) hok (by omega)) gX7_engraveAll_X7_fits rfl hd_X7_fits ⟨Nat.le_of_ble_eq_true rfl, Nat.le_of_ble_eq_true rfl⟩ (va_recv hK hP (ci := 6) (q0 := 0) rfl rfl) hK hN hP rfl hl.1 rfl (Nat.le_of_ble_eq_true rfl) dX7_engraveAll_31 ⟨Nat.zero_le _, Nat.zero_le _⟩ ?_
          refine nv_ifz (b := mFits (M 0) k (mSize (M 0))) (tgt := 41) cx dX7_engraveAll_34 (by decide) (fun c_7 => ?_) (fun c_7 => ?_)
          · refine lv_iconst (v := nI 0) cx.1 cx.2.1 dX7_engraveAll_41 (by decide) ?_
            refine nv_iadd cx (a := mEc (M 0) (mSize (M 0)) k) (b := 0) dX7_engraveAll_42 ?_
            refine lv_istore_n (lv' := [(2, .int (nI (mEc (M 0) (mSize (M 0)) k + 0))), (0, .ref (ad 0)), (1, .int (mSize (M 0))), (3, .int (nI k))]) cx.1 cx.2.1 dX7_engraveAll_43 rfl hl (by decide) rfl (fun ls hl => ?_)
            refine lv_iinc (v := nI (k + 1)) (lv' := [(3, .int (nI (k + 1))), (2, .int (nI (mEc (M 0) (mSize (M 0)) k + 0))), (0, .ref (ad 0)), (1, .int (mSize (M 0)))]) cx.1 cx.2.1 dX7_engraveAll_44 hl (k := 3) rfl (show nI k + Int32.ofInt 1 = nI (k + 1) from nI_add k 1) (by decide) rfl (fun ls hl => ?_)
            refine lv_goto (tgt := 9) cx.1 cx.2.1 dX7_engraveAll_47 (by decide) ?_
            have e2 : nI (mEc (M 0) (mSize (M 0)) (k + 1)) = nI (mEc (M 0) (mSize (M 0)) k + 0) := by simp [mEc, c_1, c_6, c_7]
            exact ih9 (k + 1) (by omega) (by omega) ls (lv_sub hl [2, 3, 1, 0] (by rw [e2]; rfl))
          · refine lv_iconst (v := nI 1) cx.1 cx.2.1 dX7_engraveAll_37 (by decide) ?_
            refine lv_goto (tgt := 42) cx.1 cx.2.1 dX7_engraveAll_38 (by decide) ?_
            refine nv_iadd cx (a := mEc (M 0) (mSize (M 0)) k) (b := 1) dX7_engraveAll_42 ?_
            refine lv_istore_n (lv' := [(2, .int (nI (mEc (M 0) (mSize (M 0)) k + 1))), (0, .ref (ad 0)), (1, .int (mSize (M 0))), (3, .int (nI k))]) cx.1 cx.2.1 dX7_engraveAll_43 rfl hl (by decide) rfl (fun ls hl => ?_)
            refine lv_iinc (v := nI (k + 1)) (lv' := [(3, .int (nI (k + 1))), (2, .int (nI (mEc (M 0) (mSize (M 0)) k + 1))), (0, .ref (ad 0)), (1, .int (mSize (M 0)))]) cx.1 cx.2.1 dX7_engraveAll_44 hl (k := 3) rfl (show nI k + Int32.ofInt 1 = nI (k + 1) from nI_add k 1) (by decide) rfl (fun ls hl => ?_)
            refine lv_goto (tgt := 9) cx.1 cx.2.1 dX7_engraveAll_47 (by decide) ?_
            have e2 : nI (mEc (M 0) (mSize (M 0)) (k + 1)) = nI (mEc (M 0) (mSize (M 0)) k + 1) := by simp [mEc, c_1, c_6, c_7]
            exact ih9 (k + 1) (by omega) (by omega) ls (lv_sub hl [2, 3, 1, 0] (by rw [e2]; rfl))
  exact lp9 _ 0 (Nat.lt_succ_self _) (by omega) ls (lv_sub hl [3, 2, 1, 0] rfl)
