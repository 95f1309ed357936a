/-! ===== m3: laid by program ===== -/
theorem iw_X7_noSeat_X7 : ∀ w ∈ wsX70, w ∈ wsX7_noSeat := fun _ h => List.mem_cons_of_mem _ (List.mem_append_right _ h)
theorem fw_X7_noSeat_f7 : (Cond.fieldLink RX7 7 "NamePlateModel" "now" "[I") ∈ wsX7_noSeat := List.mem_of_getElem? (i := 1) rfl
set_option maxHeartbeats 4000000 in
set_option maxRecDepth 100000 in
theorem c_X7_noSeat (l : Launch) (G : GG) (ad : Nat → Nat) (M : XS) (seat : Int32) (hok : okM (M 0)) : RO l yX7_noSeat wsX7_noSeat 1 22 G (mdC G ad M) [.ref (ad 0), .int seat] (b2i (mNo (M 0) seat)) := by
  refine RO.start (cc := cX7_noSeat) (maxL := 2) (ret := (some .boolean)) (by decide) rfl (Nat.le_of_ble_eq_true rfl) ?_
  intro p e s m below meth c ls cx hr hlocks hK hN hP hl
  have cx : CallFix p m c cX7_noSeat 2 s [.ref (ad 0), .int seat].toArray wsX7_noSeat RX7 := cx
  have hl : lv_has ls 2 [(0, .ref (ad 0)), (1, .int seat)] := hl
  refine lv_iload_n cx.1 cx.2.1 dX7_noSeat_0 rfl (lv_at hl 1 rfl) ?_
  refine lv_iconst (v := nI 0) cx.1 cx.2.1 dX7_noSeat_1 (by decide) ?_
  refine lv_aload_n cx.1 cx.2.1 dX7_noSeat_2 rfl (lv_at hl 0 rfl) ?_
  refine va_get (ci := 6) (C := RX7) (T := TX7) (N := 7) (v := .ref (ad 1)) cx.1 cx.2.1 cx.2.2.2.2 iw_X7_noSeat_X7 cx.2.2.2.1 hK hP 0 rfl rfl 0 (by decide) (cx.2.2.2.2 _ fw_X7_noSeat_f7) (fun _ h9 => h9) rfl dX7_noSeat_3 ?_
  refine lv_iconst (v := nI 4) cx.1 cx.2.1 dX7_noSeat_6 (by decide) ?_
  refine nv_iald (j := 4) cx hK hP 1 1 rfl rfl (by omega) (by decide) dX7_noSeat_7 ?_
  refine nv_eqi (y := nI (mn (M 0))) hok.n ?_
  refine lv_iconst (v := nI 1) cx.1 cx.2.1 dX7_noSeat_8 (by decide) ?_
  refine lv_isub (x := nI (mn (M 0))) (y := 1) cx.1 cx.2.1 dX7_noSeat_9 ?_
  refine RO.callS (As := [.int seat, .int 0, .int ((nI (mn (M 0))) - 1)]) (rest := []) cx (c_X7_in l G seat 0 ((nI (mn (M 0))) - 1)) gX7_noSeat_X7_in rfl hd_X7_in ⟨Nat.le_of_ble_eq_true rfl, Nat.le_of_ble_eq_true rfl⟩ hK hN va_P.nil rfl hl.1 rfl (Nat.le_of_ble_eq_true rfl) dX7_noSeat_10 ⟨Nat.zero_le _, Nat.zero_le _⟩ ?_
  refine nv_ifnz (b := inR seat 0 ((nI (mn (M 0))) - 1)) (tgt := 20) cx dX7_noSeat_13 (by decide) (fun c_1 => ?_) (fun c_1 => ?_)
  · refine lv_iconst (v := nI 0) cx.1 cx.2.1 dX7_noSeat_20 (by decide) ?_
    exact RO.retz (b := mNo (M 0) seat) (x := 0) cx hr hlocks dX7_noSeat_21 (by simp [mNo, b2i, c_1]) rfl
  · refine lv_iconst (v := nI 1) cx.1 cx.2.1 dX7_noSeat_16 (by decide) ?_
    refine lv_goto (tgt := 21) cx.1 cx.2.1 dX7_noSeat_17 (by decide) ?_
    exact RO.retz (b := mNo (M 0) seat) (x := 1) cx hr hlocks dX7_noSeat_21 (by simp [mNo, b2i, c_1]) rfl

set_option maxHeartbeats 4000000 in
set_option maxRecDepth 100000 in
theorem c_X7_areSigns (l : Launch) (G : GG)  (a : Int32) (b : Int32)  : RO l yX7_areSigns wsX7_areSigns 2 42 G ([]) [.int a, .int b] (b2i (mOk a && mOk b)) := by
  refine RO.start (cc := cX7_areSigns) (maxL := 2) (ret := (some .boolean)) (by decide) rfl (Nat.le_of_ble_eq_true rfl) ?_
  intro p e s m below meth c ls cx hr hlocks hK hN hP hl
  have cx : CallFix p m c cX7_areSigns 2 s [.int a, .int b].toArray wsX7_areSigns RX7 := cx
  have hl : lv_has ls 2 [(0, .int a), (1, .int b)] := hl
  refine lv_iload_n cx.1 cx.2.1 dX7_areSigns_0 rfl (lv_at hl 0 rfl) ?_
  refine RO.callS (As := [.int a]) (rest := []) cx (c_X7_isLetter l G a) gX7_areSigns_X7_isLetter rfl hd_X7_isLetter ⟨Nat.le_of_ble_eq_true rfl, Nat.le_of_ble_eq_true rfl⟩ hK hN va_P.nil rfl hl.1 rfl (Nat.le_of_ble_eq_true rfl) dX7_areSigns_1 ⟨Nat.zero_le _, Nat.zero_le _⟩ ?_
  refine nv_ifnz (b := mL a) (tgt := 14) cx dX7_areSigns_4 (by decide) (fun c_1 => ?_) (fun c_1 => ?_)
  · refine lv_iload_n cx.1 cx.2.1 dX7_areSigns_14 rfl (lv_at hl 1 rfl) ?_
    refine RO.callS (As := [.int b]) (rest := []) cx (c_X7_isLetter l G b) gX7_areSigns_X7_isLetter rfl hd_X7_isLetter ⟨Nat.le_of_ble_eq_true rfl, Nat.le_of_ble_eq_true rfl⟩ hK hN va_P.nil rfl hl.1 rfl (Nat.le_of_ble_eq_true rfl) dX7_areSigns_15 ⟨Nat.zero_le _, Nat.zero_le _⟩ ?_
    refine nv_ifnz (b := mL b) (tgt := 28) cx dX7_areSigns_18 (by decide) (fun c_2 => ?_) (fun c_2 => ?_)
    · refine lv_iconst (v := nI 1) cx.1 cx.2.1 dX7_areSigns_28 (by decide) ?_
      refine lv_goto (tgt := 33) cx.1 cx.2.1 dX7_areSigns_29 (by decide) ?_
      exact RO.retz (b := (mOk a && mOk b)) (x := 1) cx hr hlocks dX7_areSigns_33 (by simp [mOk, b2i, c_1, c_2]) rfl
    · refine lv_iload_n cx.1 cx.2.1 dX7_areSigns_21 rfl (lv_at hl 1 rfl) ?_
      refine RO.callS (As := [.int b]) (rest := []) cx (c_X7_isPoint l G b) gX7_areSigns_X7_isPoint rfl hd_X7_isPoint ⟨Nat.le_of_ble_eq_true rfl, Nat.le_of_ble_eq_true rfl⟩ hK hN va_P.nil rfl hl.1 rfl (Nat.le_of_ble_eq_true rfl) dX7_areSigns_22 ⟨Nat.zero_le _, Nat.zero_le _⟩ ?_
      refine nv_ifz (b := mPt b) (tgt := 32) cx dX7_areSigns_25 (by decide) (fun c_3 => ?_) (fun c_3 => ?_)
      · refine lv_iconst (v := nI 0) cx.1 cx.2.1 dX7_areSigns_32 (by decide) ?_
        exact RO.retz (b := (mOk a && mOk b)) (x := 0) cx hr hlocks dX7_areSigns_33 (by simp [mOk, b2i, c_1, c_2, c_3]) rfl
      · refine lv_iconst (v := nI 1) cx.1 cx.2.1 dX7_areSigns_28 (by decide) ?_
        refine lv_goto (tgt := 33) cx.1 cx.2.1 dX7_areSigns_29 (by decide) ?_
        exact RO.retz (b := (mOk a && mOk b)) (x := 1) cx hr hlocks dX7_areSigns_33 (by simp [mOk, b2i, c_1, c_2, c_3]) rfl
  · refine lv_iload_n cx.1 cx.2.1 dX7_areSigns_7 rfl (lv_at hl 0 rfl) ?_
    refine RO.callS (As := [.int a]) (rest := []) cx (c_X7_isPoint l G a) gX7_areSigns_X7_isPoint rfl hd_X7_isPoint ⟨Nat.le_of_ble_eq_true rfl, Nat.le_of_ble_eq_true rfl⟩ hK hN va_P.nil rfl hl.1 rfl (Nat.le_of_ble_eq_true rfl) dX7_areSigns_8 ⟨Nat.zero_le _, Nat.zero_le _⟩ ?_
    refine nv_ifz (b := mPt a) (tgt := 32) cx dX7_areSigns_11 (by decide) (fun c_4 => ?_) (fun c_4 => ?_)
    · refine lv_iconst (v := nI 0) cx.1 cx.2.1 dX7_areSigns_32 (by decide) ?_
      exact RO.retz (b := (mOk a && mOk b)) (x := 0) cx hr hlocks dX7_areSigns_33 (by simp [mOk, b2i, c_1, c_4]) rfl
    · refine lv_iload_n cx.1 cx.2.1 dX7_areSigns_14 rfl (lv_at hl 1 rfl) ?_
      refine RO.callS (As := [.int b]) (rest := []) cx (c_X7_isLetter l G b) gX7_areSigns_X7_isLetter rfl hd_X7_isLetter ⟨Nat.le_of_ble_eq_true rfl, Nat.le_of_ble_eq_true rfl⟩ hK hN va_P.nil rfl hl.1 rfl (Nat.le_of_ble_eq_true rfl) dX7_areSigns_15 ⟨Nat.zero_le _, Nat.zero_le _⟩ ?_
      refine nv_ifnz (b := mL b) (tgt := 28) cx dX7_areSigns_18 (by decide) (fun c_5 => ?_) (fun c_5 => ?_)
      · refine lv_iconst (v := nI 1) cx.1 cx.2.1 dX7_areSigns_28 (by decide) ?_
        refine lv_goto (tgt := 33) cx.1 cx.2.1 dX7_areSigns_29 (by decide) ?_
        exact RO.retz (b := (mOk a && mOk b)) (x := 1) cx hr hlocks dX7_areSigns_33 (by simp [mOk, b2i, c_1, c_4, c_5]) rfl
      · refine lv_iload_n cx.1 cx.2.1 dX7_areSigns_21 rfl (lv_at hl 1 rfl) ?_
        refine RO.callS (As := [.int b]) (rest := []) cx (c_X7_isPoint l G b) gX7_areSigns_X7_isPoint rfl hd_X7_isPoint ⟨Nat.le_of_ble_eq_true rfl, Nat.le_of_ble_eq_true rfl⟩ hK hN va_P.nil rfl hl.1 rfl (Nat.le_of_ble_eq_true rfl) dX7_areSigns_22 ⟨Nat.zero_le _, Nat.zero_le _⟩ ?_
        refine nv_ifz (b := mPt b) (tgt := 32) cx dX7_areSigns_25 (by decide) (fun c_6 => ?_) (fun c_6 => ?_)
        · refine lv_iconst (v := nI 0) cx.1 cx.2.1 dX7_areSigns_32 (by decide) ?_
          exact RO.retz (b := (mOk a && mOk b)) (x := 0) cx hr hlocks dX7_areSigns_33 (by simp [mOk, b2i, c_1, c_4, c_5, c_6]) rfl
        · refine lv_iconst (v := nI 1) cx.1 cx.2.1 dX7_areSigns_28 (by decide) ?_
          refine lv_goto (tgt := 33) cx.1 cx.2.1 dX7_areSigns_29 (by decide) ?_
          exact RO.retz (b := (mOk a && mOk b)) (x := 1) cx hr hlocks dX7_areSigns_33 (by simp [mOk, b2i, c_1, c_4, c_5, c_6]) rfl

theorem iw_X7_isCut_X7 : ∀ w ∈ wsX70, w ∈ wsX7_isCut := fun _ h => List.mem_cons_of_mem _ (List.mem_append_right _ h)
theorem fw_X7_isCut_f7 : (Cond.fieldLink RX7 7 "NamePlateModel" "now" "[I") ∈ wsX7_isCut := List.mem_of_getElem? (i := 1) rfl
set_option maxHeartbeats 4000000 in
set_option maxRecDepth 100000 in
theorem c_X7_isCut (l : Launch) (G : GG) (ad : Nat → Nat) (M : XS) (a : Int32) (b : Int32) (hok : okM (M 0)) : RO l yX7_isCut wsX7_isCut 2 44 G (mdC G ad M) [.ref (ad 0), .int a, .int b] (b2i (mCut (M 0) a b)) := by
  refine RO.start (cc := cX7_isCut) (maxL := 5) (ret := (some .boolean)) (by decide) rfl (Nat.le_of_ble_eq_true rfl) ?_
  intro p e s m below meth c ls cx hr hlocks hK hN hP hl
  have cx : CallFix p m c cX7_isCut 5 s [.ref (ad 0), .int a, .int b].toArray wsX7_isCut RX7 := cx
  have hl : lv_has ls 5 [(0, .ref (ad 0)), (1, .int a), (2, .int b)] := hl
  have hn20 := hok.n20
  refine lv_iconst (v := nI 0) cx.1 cx.2.1 dX7_isCut_0 (by decide) ?_
  refine lv_istore_n (lv' := [(3, .int (nI 0)), (0, .ref (ad 0)), (1, .int a), (2, .int b)]) cx.1 cx.2.1 dX7_isCut_1 rfl hl (by decide) rfl (fun ls hl => ?_)
  have lp2 : ∀ (r : Nat) (k : Nat) (hr9 : mn (M 0) - k < r) (hi : k ≤ mn (M 0)) (hno : ∀ j, j < k → mCk (M 0) a b j = false) (ls : Array Slot), lv_has ls 5 [(0, .ref (ad 0)), (1, .int a), (2, .int b), (3, .int (nI k))] → W p l e ({ frames := 2, cells := 0, slots := 0, locals := 44 } : Room) s m [.ref (ad 0), .int a, .int b].toArray below meth c s.heap [] 0 0 (MQ below (vp_Si (fun r => r = (b2i (mCut (M 0) a b)))) [.ref (ad 0), .int a, .int b].toArray s 0 0 (fun _ => False)) (F0 m 2 ls []) := by
    intro r
    induction r with
    | zero => intro k hr9; exact absurd hr9 (Nat.not_lt_zero _)
    | succ r ih2 =>
      intro k hr9 hi hno ls hl
      refine lv_iload_n cx.1 cx.2.1 dX7_isCut_2 rfl (lv_at hl 3 rfl) ?_
      refine lv_aload_n cx.1 cx.2.1 dX7_isCut_3 rfl (lv_at hl 0 rfl) ?_
      refine va_get (ci := 6) (C := RX7) (T := TX7) (N := 7) (v := .ref (ad 1)) cx.1 cx.2.1 cx.2.2.2.2 iw_X7_isCut_X7 cx.2.2.2.1 hK hP 0 rfl rfl 0 (by decide) (cx.2.2.2.2 _ fw_X7_isCut_f7) (fun _ h9 => h9) rfl dX7_isCut_4 ?_
      refine lv_iconst (v := nI 4) cx.1 cx.2.1 dX7_isCut_7 (by decide) ?_
      refine nv_iald (j := 4) cx hK hP 1 1 rfl rfl (by omega) (by decide) dX7_isCut_8 ?_
      refine nv_eqi (y := nI (mn (M 0))) hok.n ?_
      refine nv_icmp_ge (a := k) (b := mn (M 0)) (tgt := 74) cx dX7_isCut_9 (by decide) (by omega) (by omega) (fun c_1 => ?_) (fun c_1 => ?_)
      · refine lv_iconst (v := nI 0) cx.1 cx.2.1 dX7_isCut_74 (by decide) ?_
        exact RO.retz (b := mCut (M 0) a b) (x := 0) cx hr hlocks dX7_isCut_75 (by have e3 : fstN (mCk (M 0) a b) (mn (M 0)) = k := fstN_eq hi hno (fun q => absurd q (by omega)); rw [mCut, e3, decide_eq_false (by omega)]; rfl) rfl
      · refine lv_iconst (v := nI 0) cx.1 cx.2.1 dX7_isCut_12 (by decide) ?_
        refine lv_istore (lv' := [(4, .int (nI 0)), (0, .ref (ad 0)), (1, .int a), (2, .int b), (3, .int (nI k))]) cx.1 cx.2.1 dX7_isCut_13 hl (by decide) rfl (fun ls hl => ?_)
        have hl1 := hok.l1 (show k < mn (M 0) by omega)
        have hl16 := hok.l16 (show k < mn (M 0) by omega)
        have lp15 : ∀ (r : Nat) (x : Nat) (hr9 : ml (M 0) k - x < r) (hx : x ≤ ml (M 0) k - 1) (hxo : ∀ j, j < x → mCq (M 0) a b k j = false) (ls : Array Slot), lv_has ls 5 [(4, .int (nI x)), (0, .ref (ad 0)), (1, .int a), (2, .int b), (3, .int (nI k))] → W p l e ({ frames := 2, cells := 0, slots := 0, locals := 44 } : Room) s m [.ref (ad 0), .int a, .int b].toArray below meth c s.heap [] 0 0 (MQ below (vp_Si (fun r => r = (b2i (mCut (M 0) a b)))) [.ref (ad 0), .int a, .int b].toArray s 0 0 (fun _ => False)) (F0 m 15 ls []) := by
          intro r
          induction r with
          | zero => intro x hr9; exact absurd hr9 (Nat.not_lt_zero _)
          | succ r ih15 =>
            intro x hr9 hx hxo ls hl
            refine lv_iload cx.1 cx.2.1 dX7_isCut_15 (lv_at hl 0 rfl) ?_
            refine lv_iconst (v := nI 1) cx.1 cx.2.1 dX7_isCut_17 (by decide) ?_
            refine nv_iadd cx (a := x) (b := 1) dX7_isCut_18 ?_
            refine lv_aload_n cx.1 cx.2.1 dX7_isCut_19 rfl (lv_at hl 1 rfl) ?_
            refine lv_iload_n cx.1 cx.2.1 dX7_isCut_20 rfl (lv_at hl 4 rfl) ?_
            refine lv_iconst (v := nI 0) cx.1 cx.2.1 dX7_isCut_21 (by decide) ?_
            refine RO.callV (As := [.int (nI k), .int (nI 0)]) (rest := [.int (nI (x + 1))]) cx (c_X7_of l G ad M k 0 (by omega)) gX7_isCut_X7_of rfl hd_X7_of ⟨Nat.le_of_ble_eq_true rfl, Nat.le_of_ble_eq_true rfl⟩ (va_recv hK hP (ci := 6) (q0 := 0) rfl rfl) hK hN hP rfl hl.1 rfl (Nat.le_of_ble_eq_true rfl) dX7_isCut_22 ⟨Nat.zero_le _, Nat.zero_le _⟩ ?_
            refine nv_eqi (y := nI (ml (M 0) k)) (hok.l (by omega)) ?_
            refine nv_icmp_ge (a := x + 1) (b := ml (M 0) k) (tgt := 68) cx dX7_isCut_25 (by decide) (by omega) (by omega) (fun c_2 => ?_) (fun c_2 => ?_)
            · have hk0 : mCk (M 0) a b k = false := by
                have e : fstN (mCq (M 0) a b k) (ml (M 0) k - 1) = x := fstN_eq hx hxo (fun q => absurd q (by omega))
                simp only [mCk, e, Bool.and_eq_false_iff, decide_eq_false_iff_not]
                exact Or.inr (by omega)
              refine lv_iinc (v := nI (k + 1)) (lv' := [(3, .int (nI (k + 1))), (4, .int (nI x)), (0, .ref (ad 0)), (1, .int a), (2, .int b)]) cx.1 cx.2.1 dX7_isCut_68 hl (k := 4) rfl (show nI k + Int32.ofInt 1 = nI (k + 1) from nI_add k 1) (by decide) rfl (fun ls hl => ?_)
              refine lv_goto (tgt := 2) cx.1 cx.2.1 dX7_isCut_71 (by decide) ?_
              exact ih2 (k + 1) (by omega) (by omega) (lt_s hno hk0) ls (lv_sub hl [2, 3, 4, 0] rfl)
            · refine lv_aload_n cx.1 cx.2.1 dX7_isCut_28 rfl (lv_at hl 1 rfl) ?_
              refine lv_iload_n cx.1 cx.2.1 dX7_isCut_29 rfl (lv_at hl 4 rfl) ?_
              refine RO.callV (As := [.int (nI k)]) (rest := []) cx (c_X7_isEngraved l G ad M k (by omega)) gX7_isCut_X7_isEngraved rfl hd_X7_isEngraved ⟨Nat.le_of_ble_eq_true rfl, Nat.le_of_ble_eq_true rfl⟩ (va_recv hK hP (ci := 6) (q0 := 0) rfl rfl) hK hN hP rfl hl.1 rfl (Nat.le_of_ble_eq_true rfl) dX7_isCut_30 ⟨Nat.zero_le _, Nat.zero_le _⟩ ?_
              refine nv_ifz (b := decide (mE (M 0) k = 1)) (tgt := 68) cx dX7_isCut_33 (by decide) (fun c_3 => ?_) (fun c_3 => ?_)
              · have hk0 : mCk (M 0) a b k = false := by simp only [mCk, c_3, Bool.false_and]
                refine lv_iinc (v := nI (k + 1)) (lv' := [(3, .int (nI (k + 1))), (4, .int (nI x)), (0, .ref (ad 0)), (1, .int a), (2, .int b)]) cx.1 cx.2.1 dX7_isCut_68 hl (k := 4) rfl (show nI k + Int32.ofInt 1 = nI (k + 1) from nI_add k 1) (by decide) rfl (fun ls hl => ?_)
                refine lv_goto (tgt := 2) cx.1 cx.2.1 dX7_isCut_71 (by decide) ?_
                exact ih2 (k + 1) (by omega) (by omega) (lt_s hno hk0) ls (lv_sub hl [2, 3, 4, 0] rfl)
              · refine lv_aload_n cx.1 cx.2.1 dX7_isCut_36 rfl (lv_at hl 1 rfl) ?_
                refine lv_iload_n cx.1 cx.2.1 dX7_isCut_37 rfl (lv_at hl 4 rfl) ?_
                refine lv_iload cx.1 cx.2.1 dX7_isCut_38 (lv_at hl 0 rfl) ?_
                refine RO.callV (As := [.int (nI k), .int (nI x)]) (rest := []) cx (c_X7_signOf l G ad M k x (by omega)) gX7_isCut_X7_signOf rfl hd_X7_signOf ⟨Nat.le_of_ble_eq_true rfl, Nat.le_of_ble_eq_true rfl⟩ (va_recv hK hP (ci := 6) (q0 := 0) rfl rfl) hK hN hP rfl hl.1 rfl (Nat.le_of_ble_eq_true rfl) dX7_isCut_40 ⟨Nat.zero_le _, Nat.zero_le _⟩ ?_
                refine lv_iload_n cx.1 cx.2.1 dX7_isCut_43 rfl (lv_at hl 2 rfl) ?_
                refine lv_icmp_ne (x := mSg (M 0) k x) (y := a) (tgt := 62) cx.1 cx.2.1 dX7_isCut_44 (by decide) (fun c_4 => ?_) (fun c_4 => ?_)
                · refine lv_iinc (v := nI (x + 1)) (lv' := [(4, .int (nI (x + 1))), (0, .ref (ad 0)), (1, .int a), (2, .int b), (3, .int (nI k))]) cx.1 cx.2.1 dX7_isCut_62 hl (k := 0) rfl (show nI x + Int32.ofInt 1 = nI (x + 1) from nI_add x 1) (by decide) rfl (fun ls hl => ?_)
                  refine lv_goto (tgt := 15) cx.1 cx.2.1 dX7_isCut_65 (by decide) ?_
                  have hx2 : ∀ j, j < x + 1 → mCq (M 0) a b k j = false := lt_s hxo (by simp [mCq, c_1, c_2, c_3, c_4])
                  exact ih15 (x + 1) (by omega) (by omega) hx2 ls (lv_sub hl [0, 1, 2, 3, 4] rfl)
                · refine lv_aload_n cx.1 cx.2.1 dX7_isCut_47 rfl (lv_at hl 1 rfl) ?_
                  refine lv_iload_n cx.1 cx.2.1 dX7_isCut_48 rfl (lv_at hl 4 rfl) ?_
                  refine lv_iload cx.1 cx.2.1 dX7_isCut_49 (lv_at hl 0 rfl) ?_
                  refine lv_iconst (v := nI 1) cx.1 cx.2.1 dX7_isCut_51 (by decide) ?_
                  refine nv_iadd cx (a := x) (b := 1) dX7_isCut_52 ?_
                  refine RO.callV (As := [.int (nI k), .int (nI (x + 1))]) (rest := []) cx (c_X7_signOf l G ad M k (x + 1) (by omega)) gX7_isCut_X7_signOf rfl hd_X7_signOf ⟨Nat.le_of_ble_eq_true rfl, Nat.le_of_ble_eq_true rfl⟩ (va_recv hK hP (ci := 6) (q0 := 0) rfl rfl) hK hN hP rfl hl.1 rfl (Nat.le_of_ble_eq_true rfl) dX7_isCut_53 ⟨Nat.zero_le _, Nat.zero_le _⟩ ?_
                  refine lv_iload_n cx.1 cx.2.1 dX7_isCut_56 rfl (lv_at hl 3 rfl) ?_
                  refine lv_icmp_ne (x := mSg (M 0) k (x + 1)) (y := b) (tgt := 62) cx.1 cx.2.1 dX7_isCut_57 (by decide) (fun c_5 => ?_) (fun c_5 => ?_)
                  · refine lv_iinc (v := nI (x + 1)) (lv' := [(4, .int (nI (x + 1))), (0, .ref (ad 0)), (1, .int a), (2, .int b), (3, .int (nI k))]) cx.1 cx.2.1 dX7_isCut_62 hl (k := 0) rfl (show nI x + Int32.ofInt 1 = nI (x + 1) from nI_add x 1) (by decide) rfl (fun ls hl => ?_)
                    refine lv_goto (tgt := 15) cx.1 cx.2.1 dX7_isCut_65 (by decide) ?_
                    have hx2 : ∀ j, j < x + 1 → mCq (M 0) a b k j = false := lt_s hxo (by simp [mCq, c_1, c_2, c_3, c_4, c_5])
                    exact ih15 (x + 1) (by omega) (by omega) hx2 ls (lv_sub hl [0, 1, 2, 3, 4] rfl)
                  · refine lv_iconst (v := nI 1) cx.1 cx.2.1 dX7_isCut_60 (by decide) ?_
                    exact RO.retz (b := mCut (M 0) a b) (x := 1) cx hr hlocks dX7_isCut_61 (by have hq : mCq (M 0) a b k x = true := (by simp [mCq, c_1, c_2, c_3, c_4, c_5]); have e : fstN (mCq (M 0) a b k) (ml (M 0) k - 1) = x := fstN_eq hx hxo (fun _ => hq); have e2 : mCk (M 0) a b k = true := (by simp only [mCk, e, Bool.and_eq_true, decide_eq_true_eq]; exact ⟨by simpa using c_3, by omega⟩); have e3 : fstN (mCk (M 0) a b) (mn (M 0)) = k := fstN_eq hi hno (fun _ => e2); rw [mCut, e3, decide_eq_true (by omega)]; rfl) rfl
        exact lp15 _ 0 (Nat.lt_succ_self _) (by omega) (fun j hj => absurd hj (Nat.not_lt_zero _)) ls (lv_sub hl [0, 1, 2, 3, 4] rfl)
  exact lp2 _ 0 (Nat.lt_succ_self _) (by omega) (fun j hj => absurd hj (Nat.not_lt_zero _)) ls (lv_sub hl [1, 2, 3, 0] rfl)

theorem iw_X7_name_X7 : ∀ w ∈ wsX70, w ∈ wsX7_name := fun _ h => List.mem_cons_of_mem _ (List.mem_append_right _ h)
theorem fw_X7_name_f7 : (Cond.fieldLink RX7 7 "NamePlateModel" "now" "[I") ∈ wsX7_name := List.mem_of_getElem? (i := 1) rfl
set_option maxHeartbeats 4000000 in
set_option maxRecDepth 100000 in
theorem c_X7_name (l : Launch) (G : GG) (ad : Nat → Nat) (M : XS) (seat : Int32) (what : Int32) (hok : okM (M 0)) : RO l yX7_name wsX7_name 9 197 G (mdC G ad M) [.ref (ad 0), .int seat, .int what] (mName (M 0) seat what) := by
  refine RO.start (cc := cX7_name) (maxL := 5) (ret := (some .int)) (by decide) rfl (Nat.le_of_ble_eq_true rfl) ?_
  intro p e s m below meth c ls cx hr hlocks hK hN hP hl
  have cx : CallFix p m c cX7_name 5 s [.ref (ad 0), .int seat, .int what].toArray wsX7_name RX7 := cx
  have hl : lv_has ls 5 [(0, .ref (ad 0)), (1, .int seat), (2, .int what)] := hl
  refine lv_aload_n cx.1 cx.2.1 dX7_name_0 rfl (lv_at hl 0 rfl) ?_
  refine lv_iload_n cx.1 cx.2.1 dX7_name_1 rfl (lv_at hl 1 rfl) ?_
  refine RO.callV (As := [.int seat]) (rest := []) cx (c_X7_noSeat l G ad M seat hok) gX7_name_X7_noSeat rfl hd_X7_noSeat ⟨Nat.le_of_ble_eq_true rfl, Nat.le_of_ble_eq_true rfl⟩ (va_recv hK hP (ci := 6) (q0 := 0) rfl rfl) hK hN hP rfl hl.1 rfl (Nat.le_of_ble_eq_true rfl) dX7_name_2 ⟨Nat.zero_le _, Nat.zero_le _⟩ ?_
  refine nv_ifz (b := mNo (M 0) seat) (tgt := 12) cx dX7_name_5 (by decide) (fun c_1 => ?_) (fun c_1 => ?_)
  · obtain ⟨k, hk, rfl⟩ := mNo_no hok.n20 c_1
    have hn20 := hok.n20
    have hl1 := hok.l1 hk
    have hl16 := hok.l16 hk
    refine lv_aload_n cx.1 cx.2.1 dX7_name_12 rfl (lv_at hl 0 rfl) ?_
    refine RO.callV (As := []) (rest := []) cx (c_X7_size l G ad M hok) gX7_name_X7_size rfl hd_X7_size ⟨Nat.le_of_ble_eq_true rfl, Nat.le_of_ble_eq_true rfl⟩ (va_recv hK hP (ci := 6) (q0 := 0) rfl rfl) hK hN hP rfl hl.1 rfl (Nat.le_of_ble_eq_true rfl) dX7_name_13 ⟨Nat.zero_le _, Nat.zero_le _⟩ ?_
    refine lv_istore_n (lv' := [(3, .int (mSize (M 0))), (0, .ref (ad 0)), (1, .int (nI k)), (2, .int what)]) cx.1 cx.2.1 dX7_name_16 rfl hl (by decide) rfl (fun ls hl => ?_)
    refine lv_iload_n cx.1 cx.2.1 dX7_name_17 rfl (lv_at hl 0 rfl) ?_
    refine lv_if_ne (x := mSize (M 0)) (tgt := 48) cx.1 cx.2.1 dX7_name_18 (by decide) (fun c_2 => ?_) (fun c_2 => ?_)
    · refine lv_iload_n cx.1 cx.2.1 dX7_name_48 rfl (lv_at hl 3 rfl) ?_
      by_cases w_3 : what = 0
      · refine lv_tableIn (tgt := 108) (off := 59) cx.1 cx.2.1 dX7_name_49 (by rw [w_3]; decide) (by rw [w_3]; decide) (by rw [w_3]; decide) (by decide) ?_
        refine lv_aload_n cx.1 cx.2.1 dX7_name_108 rfl (lv_at hl 1 rfl) ?_
        refine lv_iload_n cx.1 cx.2.1 dX7_name_109 rfl (lv_at hl 2 rfl) ?_
        refine lv_iconst (v := nI 0) cx.1 cx.2.1 dX7_name_110 (by decide) ?_
        refine RO.callV (As := [.int (nI k), .int (nI 0)]) (rest := []) cx (c_X7_of l G ad M k 0 (by omega)) gX7_name_X7_of rfl hd_X7_of ⟨Nat.le_of_ble_eq_true rfl, Nat.le_of_ble_eq_true rfl⟩ (va_recv hK hP (ci := 6) (q0 := 0) rfl rfl) hK hN hP rfl hl.1 rfl (Nat.le_of_ble_eq_true rfl) dX7_name_111 ⟨Nat.zero_le _, Nat.zero_le _⟩ ?_
        refine nv_eqi (y := nI (ml (M 0) k)) (hok.l (by omega)) ?_
        exact RO.ret (x := nI (ml (M 0) k)) cx hr hlocks dX7_name_114 (by first | contradiction | (simp [mName, mNameK, mE, mMid, b2i, nI_clamp (show k < 2147483648 by omega), mNo_in hn20 hk, c_1, c_2, w_3] <;> rfl))
      by_cases w_4 : what = 1
      · refine lv_tableIn (tgt := 115) (off := 66) cx.1 cx.2.1 dX7_name_49 (by rw [w_4]; decide) (by rw [w_4]; decide) (by rw [w_4]; decide) (by decide) ?_
        refine lv_aload_n cx.1 cx.2.1 dX7_name_115 rfl (lv_at hl 1 rfl) ?_
        refine lv_iload_n cx.1 cx.2.1 dX7_name_116 rfl (lv_at hl 2 rfl) ?_
        refine RO.callV (As := [.int (nI k)]) (rest := []) cx (c_X7_units l G ad M k hok (by omega)) gX7_name_X7_units rfl hd_X7_units ⟨Nat.le_of_ble_eq_true rfl, Nat.le_of_ble_eq_true rfl⟩ (va_recv hK hP (ci := 6) (q0 := 0) rfl rfl) hK hN hP rfl hl.1 rfl (Nat.le_of_ble_eq_true rfl) dX7_name_117 ⟨Nat.zero_le _, Nat.zero_le _⟩ ?_
        exact RO.ret (x := mU (M 0) k) cx hr hlocks dX7_name_120 (by first | contradiction | (simp [mName, mNameK, mE, mMid, b2i, nI_clamp (show k < 2147483648 by omega), mNo_in hn20 hk, c_1, c_2, w_4] <;> rfl))
      by_cases w_5 : what = 2
      · refine lv_tableIn (tgt := 121) (off := 72) cx.1 cx.2.1 dX7_name_49 (by rw [w_5]; decide) (by rw [w_5]; decide) (by rw [w_5]; decide) (by decide) ?_
        refine lv_aload_n cx.1 cx.2.1 dX7_name_121 rfl (lv_at hl 1 rfl) ?_
        refine lv_iload_n cx.1 cx.2.1 dX7_name_122 rfl (lv_at hl 2 rfl) ?_
        refine lv_iconst (v := nI 1) cx.1 cx.2.1 dX7_name_123 (by decide) ?_
        refine RO.callV (As := [.int (nI k), .int (nI 1)]) (rest := []) cx (c_X7_of l G ad M k 1 (by omega)) gX7_name_X7_of rfl hd_X7_of ⟨Nat.le_of_ble_eq_true rfl, Nat.le_of_ble_eq_true rfl⟩ (va_recv hK hP (ci := 6) (q0 := 0) rfl rfl) hK hN hP rfl hl.1 rfl (Nat.le_of_ble_eq_true rfl) dX7_name_124 ⟨Nat.zero_le _, Nat.zero_le _⟩ ?_
        exact RO.ret (x := M 0 (57 + 18 * k + 1)) cx hr hlocks dX7_name_127 (by first | contradiction | (simp [mName, mNameK, mE, mMid, b2i, nI_clamp (show k < 2147483648 by omega), mNo_in hn20 hk, c_1, c_2, w_5] <;> rfl))
      by_cases w_6 : what = 3
      · refine lv_tableIn (tgt := 128) (off := 79) cx.1 cx.2.1 dX7_name_49 (by rw [w_6]; decide) (by rw [w_6]; decide) (by rw [w_6]; decide) (by decide) ?_
        refine lv_aload_n cx.1 cx.2.1 dX7_name_128 rfl (lv_at hl 1 rfl) ?_
        refine lv_iload_n cx.1 cx.2.1 dX7_name_129 rfl (lv_at hl 2 rfl) ?_
        refine RO.callV (As := [.int (nI k)]) (rest := []) cx (c_X7_rowOf l G ad M k hok) gX7_name_X7_rowOf rfl hd_X7_rowOf ⟨Nat.le_of_ble_eq_true rfl, Nat.le_of_ble_eq_true rfl⟩ (va_recv hK hP (ci := 6) (q0 := 0) rfl rfl) hK hN hP rfl hl.1 rfl (Nat.le_of_ble_eq_true rfl) dX7_name_130 ⟨Nat.zero_le _, Nat.zero_le _⟩ ?_
        exact RO.ret (x := mRow (M 0) k) cx hr hlocks dX7_name_133 (by first | contradiction | (simp [mName, mNameK, mE, mMid, b2i, nI_clamp (show k < 2147483648 by omega), mNo_in hn20 hk, c_1, c_2, w_6] <;> rfl))
      by_cases w_7 : what = 4
      · refine lv_tableIn (tgt := 134) (off := 85) cx.1 cx.2.1 dX7_name_49 (by rw [w_7]; decide) (by rw [w_7]; decide) (by rw [w_7]; decide) (by decide) ?_
        refine lv_iload_n cx.1 cx.2.1 dX7_name_134 rfl (lv_at hl 2 rfl) ?_
        refine lv_aload_n cx.1 cx.2.1 dX7_name_135 rfl (lv_at hl 1 rfl) ?_
        refine va_get (ci := 6) (C := RX7) (T := TX7) (N := 7) (v := .ref (ad 1)) cx.1 cx.2.1 cx.2.2.2.2 iw_X7_name_X7 cx.2.2.2.1 hK hP 0 rfl rfl 0 (by decide) (cx.2.2.2.2 _ fw_X7_name_f7) (fun _ h9 => h9) rfl dX7_name_136 ?_
        refine lv_iconst (v := nI 3) cx.1 cx.2.1 dX7_name_139 (by decide) ?_
        refine nv_iald (j := 3) cx hK hP 1 1 rfl rfl (by omega) (by decide) dX7_name_140 ?_
        refine lv_irem (x := nI k) (y := M 0 3) cx.1 cx.2.1 dX7_name_141 hok.c ?_
        refine nv_eqi (y := irem (nI k) (M 0 3)) rfl ?_
        exact RO.ret (x := irem (nI k) (M 0 3)) cx hr hlocks dX7_name_142 (by first | contradiction | (simp [mName, mNameK, mE, mMid, b2i, nI_clamp (show k < 2147483648 by omega), mNo_in hn20 hk, c_1, c_2, w_7] <;> rfl))
      by_cases w_8 : what = 5
      · refine lv_tableIn (tgt := 143) (off := 94) cx.1 cx.2.1 dX7_name_49 (by rw [w_8]; decide) (by rw [w_8]; decide) (by rw [w_8]; decide) (by decide) ?_
        refine lv_aload_n cx.1 cx.2.1 dX7_name_143 rfl (lv_at hl 1 rfl) ?_
        refine lv_iload_n cx.1 cx.2.1 dX7_name_144 rfl (lv_at hl 2 rfl) ?_
        refine lv_iload_n cx.1 cx.2.1 dX7_name_145 rfl (lv_at hl 0 rfl) ?_
        refine RO.callV (As := [.int (nI k), .int (mSize (M 0))]) (rest := []) cx (c_X7_begin l G ad M k (mSize (M 0)) hok (by omega)) gX7_name_X7_begin rfl hd_X7_begin ⟨Nat.le_of_ble_eq_true rfl, Nat.le_of_ble_eq_true rfl⟩ (va_recv hK hP (ci := 6) (q0 := 0) rfl rfl) hK hN hP rfl hl.1 rfl (Nat.le_of_ble_eq_true rfl) dX7_name_146 ⟨Nat.zero_le _, Nat.zero_le _⟩ ?_
        exact RO.ret (x := mBeg (M 0) k (mSize (M 0))) cx hr hlocks dX7_name_149 (by first | contradiction | (simp [mName, mNameK, mE, mMid, b2i, nI_clamp (show k < 2147483648 by omega), mNo_in hn20 hk, c_1, c_2, w_8] <;> rfl))
      by_cases w_9 : what = 6
      · refine lv_tableIn (tgt := 150) (off := 101) cx.1 cx.2.1 dX7_name_49 (by rw [w_9]; decide) (by rw [w_9]; decide) (by rw [w_9]; decide) (by decide) ?_
        refine lv_aload_n cx.1 cx.2.1 dX7_name_150 rfl (lv_at hl 1 rfl) ?_
        refine va_get (ci := 6) (C := RX7) (T := TX7) (N := 7) (v := .ref (ad 1)) cx.1 cx.2.1 cx.2.2.2.2 iw_X7_name_X7 cx.2.2.2.1 hK hP 0 rfl rfl 0 (by decide) (cx.2.2.2.2 _ fw_X7_name_f7) (fun _ h9 => h9) rfl dX7_name_151 ?_
        refine lv_iconst (v := nI 2) cx.1 cx.2.1 dX7_name_154 (by decide) ?_
        refine nv_iald (j := 2) cx hK hP 1 1 rfl rfl (by omega) (by decide) dX7_name_155 ?_
        refine lv_bipush (v := nI 12) cx.1 cx.2.1 dX7_name_156 (by decide) ?_
        refine lv_iload_n cx.1 cx.2.1 dX7_name_158 rfl (lv_at hl 0 rfl) ?_
        refine lv_imul (x := 12) (y := mSize (M 0)) cx.1 cx.2.1 dX7_name_159 ?_
        refine lv_aload_n cx.1 cx.2.1 dX7_name_160 rfl (lv_at hl 1 rfl) ?_
        refine lv_iload_n cx.1 cx.2.1 dX7_name_161 rfl (lv_at hl 2 rfl) ?_
        refine RO.callV (As := [.int (nI k)]) (rest := [.int (12 * (mSize (M 0))), .int (M 0 2)]) cx (c_X7_rowOf l G ad M k hok) gX7_name_X7_rowOf rfl hd_X7_rowOf ⟨Nat.le_of_ble_eq_true rfl, Nat.le_of_ble_eq_true rfl⟩ (va_recv hK hP (ci := 6) (q0 := 0) rfl rfl) hK hN hP rfl hl.1 rfl (Nat.le_of_ble_eq_true rfl) dX7_name_162 ⟨Nat.zero_le _, Nat.zero_le _⟩ ?_
        refine lv_imul (x := 12 * (mSize (M 0))) (y := mRow (M 0) k) cx.1 cx.2.1 dX7_name_165 ?_
        refine lv_iadd (x := M 0 2) (y := (12 * (mSize (M 0))) * (mRow (M 0) k)) cx.1 cx.2.1 dX7_name_166 ?_
        exact RO.ret (x := (M 0 2) + ((12 * (mSize (M 0))) * (mRow (M 0) k))) cx hr hlocks dX7_name_167 (by first | contradiction | (simp [mName, mNameK, mE, mMid, b2i, nI_clamp (show k < 2147483648 by omega), mNo_in hn20 hk, c_1, c_2, w_9] <;> rfl))
      by_cases w_10 : what = 7
      · refine lv_tableIn (tgt := 168) (off := 119) cx.1 cx.2.1 dX7_name_49 (by rw [w_10]; decide) (by rw [w_10]; decide) (by rw [w_10]; decide) (by decide) ?_
        refine lv_aload_n cx.1 cx.2.1 dX7_name_168 rfl (lv_at hl 1 rfl) ?_
        refine lv_iload_n cx.1 cx.2.1 dX7_name_169 rfl (lv_at hl 2 rfl) ?_
        refine lv_iload_n cx.1 cx.2.1 dX7_name_170 rfl (lv_at hl 0 rfl) ?_
        refine RO.callV (As := [.int (nI k), .int (mSize (M 0))]) (rest := []) cx (c_X7_fits l G ad M k (mSize (M 0)) hok (by omega)) gX7_name_X7_fits rfl hd_X7_fits ⟨Nat.le_of_ble_eq_true rfl, Nat.le_of_ble_eq_true rfl⟩ (va_recv hK hP (ci := 6) (q0 := 0) rfl rfl) hK hN hP rfl hl.1 rfl (Nat.le_of_ble_eq_true rfl) dX7_name_171 ⟨Nat.zero_le _, Nat.zero_le _⟩ ?_
        refine nv_ifz (b := mFits (M 0) k (mSize (M 0))) (tgt := 181) cx dX7_name_174 (by decide) (fun c_11 => ?_) (fun c_11 => ?_)
        · refine lv_iconst (v := nI 0) cx.1 cx.2.1 dX7_name_181 (by decide) ?_
          exact RO.ret (x := 0) cx hr hlocks dX7_name_182 (by first | contradiction | (simp [mName, mNameK, mE, mMid, b2i, nI_clamp (show k < 2147483648 by omega), mNo_in hn20 hk, c_1, c_2, w_10, c_11] <;> rfl) | (simp [mName, mNameK, mE, mMid, b2i, nI_clamp (show k < 2147483648 by omega), mNo_in hn20 hk, c_1, c_2, w_10, c_11]; rw [← c_2]; assumption))
        · refine lv_iconst (v := nI 1) cx.1 cx.2.1 dX7_name_177 (by decide) ?_
          refine lv_goto (tgt := 182) cx.1 cx.2.1 dX7_name_178 (by decide) ?_
          exact RO.ret (x := 1) cx hr hlocks dX7_name_182 (by first | contradiction | (simp [mName, mNameK, mE, mMid, b2i, nI_clamp (show k < 2147483648 by omega), mNo_in hn20 hk, c_1, c_2, w_10, c_11] <;> rfl) | (simp [mName, mNameK, mE, mMid, b2i, nI_clamp (show k < 2147483648 by omega), mNo_in hn20 hk, c_1, c_2, w_10, c_11]; rw [← c_2]; assumption))
      by_cases w_12 : what = 8
      · refine lv_tableIn (tgt := 183) (off := 134) cx.1 cx.2.1 dX7_name_49 (by rw [w_12]; decide) (by rw [w_12]; decide) (by rw [w_12]; decide) (by decide) ?_
        refine lv_aload_n cx.1 cx.2.1 dX7_name_183 rfl (lv_at hl 1 rfl) ?_
        refine lv_iload_n cx.1 cx.2.1 dX7_name_184 rfl (lv_at hl 2 rfl) ?_
        refine RO.callV (As := [.int (nI k)]) (rest := []) cx (c_X7_units l G ad M k hok (by omega)) gX7_name_X7_units rfl hd_X7_units ⟨Nat.le_of_ble_eq_true rfl, Nat.le_of_ble_eq_true rfl⟩ (va_recv hK hP (ci := 6) (q0 := 0) rfl rfl) hK hN hP rfl hl.1 rfl (Nat.le_of_ble_eq_true rfl) dX7_name_185 ⟨Nat.zero_le _, Nat.zero_le _⟩ ?_
        refine lv_iload_n cx.1 cx.2.1 dX7_name_188 rfl (lv_at hl 0 rfl) ?_
        refine lv_imul (x := mU (M 0) k) (y := mSize (M 0)) cx.1 cx.2.1 dX7_name_189 ?_
        exact RO.ret (x := (mU (M 0) k) * (mSize (M 0))) cx hr hlocks dX7_name_190 (by first | contradiction | (simp [mName, mNameK, mE, mMid, b2i, nI_clamp (show k < 2147483648 by omega), mNo_in hn20 hk, c_1, c_2, w_12] <;> rfl))
      by_cases w_13 : what = 9
      · refine lv_tableIn (tgt := 191) (off := 142) cx.1 cx.2.1 dX7_name_49 (by rw [w_13]; decide) (by rw [w_13]; decide) (by rw [w_13]; decide) (by decide) ?_
        refine lv_aload_n cx.1 cx.2.1 dX7_name_191 rfl (lv_at hl 1 rfl) ?_
        refine lv_iload_n cx.1 cx.2.1 dX7_name_192 rfl (lv_at hl 2 rfl) ?_
        refine RO.callV (As := [.int (nI k)]) (rest := []) cx (c_X7_columnBegin l G ad M k hok) gX7_name_X7_columnBegin rfl hd_X7_columnBegin ⟨Nat.le_of_ble_eq_true rfl, Nat.le_of_ble_eq_true rfl⟩ (va_recv hK hP (ci := 6) (q0 := 0) rfl rfl) hK hN hP rfl hl.1 rfl (Nat.le_of_ble_eq_true rfl) dX7_name_193 ⟨Nat.zero_le _, Nat.zero_le _⟩ ?_
        refine lv_aload_n cx.1 cx.2.1 dX7_name_196 rfl (lv_at hl 1 rfl) ?_
        refine RO.callV (As := []) (rest := [.int (mCb (M 0) k)]) cx (c_X7_column l G ad M hok) gX7_name_X7_column rfl hd_X7_column ⟨Nat.le_of_ble_eq_true rfl, Nat.le_of_ble_eq_true rfl⟩ (va_recv hK hP (ci := 6) (q0 := 0) rfl rfl) hK hN hP rfl hl.1 rfl (Nat.le_of_ble_eq_true rfl) dX7_name_197 ⟨Nat.zero_le _, Nat.zero_le _⟩ ?_
        refine lv_aload_n cx.1 cx.2.1 dX7_name_200 rfl (lv_at hl 1 rfl) ?_
        refine lv_iload_n cx.1 cx.2.1 dX7_name_201 rfl (lv_at hl 2 rfl) ?_
        refine RO.callV (As := [.int (nI k)]) (rest := [.int (mCol (M 0)), .int (mCb (M 0) k)]) cx (c_X7_units l G ad M k hok (by omega)) gX7_name_X7_units rfl hd_X7_units ⟨Nat.le_of_ble_eq_true rfl, Nat.le_of_ble_eq_true rfl⟩ (va_recv hK hP (ci := 6) (q0 := 0) rfl rfl) hK hN hP rfl hl.1 rfl (Nat.le_of_ble_eq_true rfl) dX7_name_202 ⟨Nat.zero_le _, Nat.zero_le _⟩ ?_
        refine lv_iload_n cx.1 cx.2.1 dX7_name_205 rfl (lv_at hl 0 rfl) ?_
        refine lv_imul (x := mU (M 0) k) (y := mSize (M 0)) cx.1 cx.2.1 dX7_name_206 ?_
        refine lv_isub (x := mCol (M 0)) (y := (mU (M 0) k) * (mSize (M 0))) cx.1 cx.2.1 dX7_name_207 ?_
        refine lv_iconst (v := nI 2) cx.1 cx.2.1 dX7_name_208 (by decide) ?_
        refine RO.callS (As := [.int ((mCol (M 0)) - ((mU (M 0) k) * (mSize (M 0)))), .int 2]) (rest := [.int (mCb (M 0) k)]) cx (c_X7_down l G ((mCol (M 0)) - ((mU (M 0) k) * (mSize (M 0)))) 2 (by decide)) gX7_name_X7_down rfl hd_X7_down ⟨Nat.le_of_ble_eq_true rfl, Nat.le_of_ble_eq_true rfl⟩ hK hN va_P.nil rfl hl.1 rfl (Nat.le_of_ble_eq_true rfl) dX7_name_209 ⟨Nat.zero_le _, Nat.zero_le _⟩ ?_
        refine lv_iadd (x := mCb (M 0) k) (y := mDown ((mCol (M 0)) - ((mU (M 0) k) * (mSize (M 0)))) 2) cx.1 cx.2.1 dX7_name_212 ?_
        refine lv_istore (lv' := [(4, .int ((mCb (M 0) k) + (mDown ((mCol (M 0)) - ((mU (M 0) k) * (mSize (M 0)))) 2))), (3, .int (mSize (M 0))), (0, .ref (ad 0)), (1, .int (nI k)), (2, .int what)]) cx.1 cx.2.1 dX7_name_213 hl (by decide) rfl (fun ls hl => ?_)
        refine lv_iload cx.1 cx.2.1 dX7_name_215 (lv_at hl 0 rfl) ?_
        refine lv_aload_n cx.1 cx.2.1 dX7_name_217 rfl (lv_at hl 2 rfl) ?_
        refine lv_iload_n cx.1 cx.2.1 dX7_name_218 rfl (lv_at hl 3 rfl) ?_
        refine RO.callV (As := [.int (nI k)]) (rest := [.int ((mCb (M 0) k) + (mDown ((mCol (M 0)) - ((mU (M 0) k) * (mSize (M 0)))) 2))]) cx (c_X7_columnBegin l G ad M k hok) gX7_name_X7_columnBegin rfl hd_X7_columnBegin ⟨Nat.le_of_ble_eq_true rfl, Nat.le_of_ble_eq_true rfl⟩ (va_recv hK hP (ci := 6) (q0 := 0) rfl rfl) hK hN hP rfl hl.1 rfl (Nat.le_of_ble_eq_true rfl) dX7_name_219 ⟨Nat.zero_le _, Nat.zero_le _⟩ ?_
        refine lv_icmp_ge (x := (mCb (M 0) k) + (mDown ((mCol (M 0)) - ((mU (M 0) k) * (mSize (M 0)))) 2)) (y := mCb (M 0) k) (tgt := 233) cx.1 cx.2.1 dX7_name_222 (by decide) (fun c_14 => ?_) (fun c_14 => ?_)
        · refine lv_iload cx.1 cx.2.1 dX7_name_233 (lv_at hl 0 rfl) ?_
          exact RO.ret (x := (mCb (M 0) k) + (mDown ((mCol (M 0)) - ((mU (M 0) k) * (mSize (M 0)))) 2)) cx hr hlocks dX7_name_235 (by first | contradiction | (simp [mName, mNameK, mE, mMid, b2i, nI_clamp (show k < 2147483648 by omega), mNo_in hn20 hk, c_1, c_2, w_13, c_14] <;> rfl))
        · refine lv_aload_n cx.1 cx.2.1 dX7_name_225 rfl (lv_at hl 2 rfl) ?_
          refine lv_iload_n cx.1 cx.2.1 dX7_name_226 rfl (lv_at hl 3 rfl) ?_
          refine RO.callV (As := [.int (nI k)]) (rest := []) cx (c_X7_columnBegin l G ad M k hok) gX7_name_X7_columnBegin rfl hd_X7_columnBegin ⟨Nat.le_of_ble_eq_true rfl, Nat.le_of_ble_eq_true rfl⟩ (va_recv hK hP (ci := 6) (q0 := 0) rfl rfl) hK hN hP rfl hl.1 rfl (Nat.le_of_ble_eq_true rfl) dX7_name_227 ⟨Nat.zero_le _, Nat.zero_le _⟩ ?_
          refine lv_goto (tgt := 235) cx.1 cx.2.1 dX7_name_230 (by decide) ?_
          exact RO.ret (x := mCb (M 0) k) cx hr hlocks dX7_name_235 (by first | contradiction | (simp [mName, mNameK, mE, mMid, b2i, nI_clamp (show k < 2147483648 by omega), mNo_in hn20 hk, c_1, c_2, w_13, c_14] <;> rfl))
      by_cases w_15 : what = 10
      · refine lv_tableIn (tgt := 236) (off := 187) cx.1 cx.2.1 dX7_name_49 (by rw [w_15]; decide) (by rw [w_15]; decide) (by rw [w_15]; decide) (by decide) ?_
        refine lv_aload_n cx.1 cx.2.1 dX7_name_236 rfl (lv_at hl 1 rfl) ?_
        refine lv_iload_n cx.1 cx.2.1 dX7_name_237 rfl (lv_at hl 2 rfl) ?_
        refine RO.callV (As := [.int (nI k)]) (rest := []) cx (c_X7_inkOf l G ad M k hok (by omega)) gX7_name_X7_inkOf rfl hd_X7_inkOf ⟨Nat.le_of_ble_eq_true rfl, Nat.le_of_ble_eq_true rfl⟩ (va_recv hK hP (ci := 6) (q0 := 0) rfl rfl) hK hN hP rfl hl.1 rfl (Nat.le_of_ble_eq_true rfl) dX7_name_238 ⟨Nat.zero_le _, Nat.zero_le _⟩ ?_
        exact RO.ret (x := mInk (M 0) k) cx hr hlocks dX7_name_241 (by first | contradiction | (simp [mName, mNameK, mE, mMid, b2i, nI_clamp (show k < 2147483648 by omega), mNo_in hn20 hk, c_1, c_2, w_15] <;> rfl))
      refine lv_tableOut (tgt := 242) cx.1 cx.2.1 dX7_name_49 (sw_out what [0, 1, 2, 3, 4, 5, 6, 7, 8, 9, 10] (List.forall_mem_cons.mpr ⟨sw_ne w_3 (by decide), (List.forall_mem_cons.mpr ⟨sw_ne w_4 (by decide), (List.forall_mem_cons.mpr ⟨sw_ne w_5 (by decide), (List.forall_mem_cons.mpr ⟨sw_ne w_6 (by decide), (List.forall_mem_cons.mpr ⟨sw_ne w_7 (by decide), (List.forall_mem_cons.mpr ⟨sw_ne w_8 (by decide), (List.forall_mem_cons.mpr ⟨sw_ne w_9 (by decide), (List.forall_mem_cons.mpr ⟨sw_ne w_10 (by decide), (List.forall_mem_cons.mpr ⟨sw_ne w_12 (by decide), (List.forall_mem_cons.mpr ⟨sw_ne w_13 (by decide), (List.forall_mem_cons.mpr ⟨sw_ne w_15 (by decide), (fun _ h => absurd h List.not_mem_nil)⟩)⟩)⟩)⟩)⟩)⟩)⟩)⟩)⟩)⟩)⟩) (fun z h1 h2 => by simp only [List.mem_cons, List.not_mem_nil, or_false]; omega)) (by decide) ?_
      refine lv_sipush (v := (-1002)) cx.1 cx.2.1 dX7_name_242 (by decide) ?_
      exact RO.ret (x := (-1002)) cx hr hlocks dX7_name_245 (by first | contradiction | (simp [mName, mNameK, mE, mMid, b2i, nI_clamp (show k < 2147483648 by omega), mNo_in hn20 hk, c_1, c_2, w_3, w_4, w_5, w_6, w_7, w_8, w_9, w_10, w_12, w_13, w_15] <;> rfl))
    · refine lv_iload_n cx.1 cx.2.1 dX7_name_21 rfl (lv_at hl 3 rfl) ?_
      refine lv_iconst (v := nI 5) cx.1 cx.2.1 dX7_name_22 (by decide) ?_
      refine lv_icmp_eq (x := what) (y := 5) (tgt := 44) cx.1 cx.2.1 dX7_name_23 (by decide) (fun c_16 => ?_) (fun c_16 => ?_)
      · refine lv_sipush (v := (-1005)) cx.1 cx.2.1 dX7_name_44 (by decide) ?_
        exact RO.ret (x := (-1005)) cx hr hlocks dX7_name_47 (by first | contradiction | (simp [mName, mNameK, mE, mMid, b2i, nI_clamp (show k < 2147483648 by omega), mNo_in hn20 hk, c_1, c_2, c_16] <;> rfl))
      · refine lv_iload_n cx.1 cx.2.1 dX7_name_26 rfl (lv_at hl 3 rfl) ?_
        refine lv_bipush (v := nI 6) cx.1 cx.2.1 dX7_name_27 (by decide) ?_
        refine lv_icmp_eq (x := what) (y := 6) (tgt := 44) cx.1 cx.2.1 dX7_name_29 (by decide) (fun c_17 => ?_) (fun c_17 => ?_)
        · refine lv_sipush (v := (-1005)) cx.1 cx.2.1 dX7_name_44 (by decide) ?_
          exact RO.ret (x := (-1005)) cx hr hlocks dX7_name_47 (by first | contradiction | (simp [mName, mNameK, mE, mMid, b2i, nI_clamp (show k < 2147483648 by omega), mNo_in hn20 hk, c_1, c_2, c_16, c_17] <;> rfl))
        · refine lv_iload_n cx.1 cx.2.1 dX7_name_32 rfl (lv_at hl 3 rfl) ?_
          refine lv_bipush (v := nI 8) cx.1 cx.2.1 dX7_name_33 (by decide) ?_
          refine lv_icmp_eq (x := what) (y := 8) (tgt := 44) cx.1 cx.2.1 dX7_name_35 (by decide) (fun c_18 => ?_) (fun c_18 => ?_)
          · refine lv_sipush (v := (-1005)) cx.1 cx.2.1 dX7_name_44 (by decide) ?_
            exact RO.ret (x := (-1005)) cx hr hlocks dX7_name_47 (by first | contradiction | (simp [mName, mNameK, mE, mMid, b2i, nI_clamp (show k < 2147483648 by omega), mNo_in hn20 hk, c_1, c_2, c_16, c_17, c_18] <;> rfl))
          · refine lv_iload_n cx.1 cx.2.1 dX7_name_38 rfl (lv_at hl 3 rfl) ?_
            refine lv_bipush (v := nI 9) cx.1 cx.2.1 dX7_name_39 (by decide) ?_
            refine lv_icmp_ne (x := what) (y := 9) (tgt := 48) cx.1 cx.2.1 dX7_name_41 (by decide) (fun c_19 => ?_) (fun c_19 => ?_)
            · refine lv_iload_n cx.1 cx.2.1 dX7_name_48 rfl (lv_at hl 3 rfl) ?_
              by_cases w_20 : what = 0
              · refine lv_tableIn (tgt := 108) (off := 59) cx.1 cx.2.1 dX7_name_49 (by rw [w_20]; decide) (by rw [w_20]; decide) (by rw [w_20]; decide) (by decide) ?_
                refine lv_aload_n cx.1 cx.2.1 dX7_name_108 rfl (lv_at hl 1 rfl) ?_
                refine lv_iload_n cx.1 cx.2.1 dX7_name_109 rfl (lv_at hl 2 rfl) ?_
                refine lv_iconst (v := nI 0) cx.1 cx.2.1 dX7_name_110 (by decide) ?_
                refine RO.callV (As := [.int (nI k), .int (nI 0)]) (rest := []) cx (c_X7_of l G ad M k 0 (by omega)) gX7_name_X7_of rfl hd_X7_of ⟨Nat.le_of_ble_eq_true rfl, Nat.le_of_ble_eq_true rfl⟩ (va_recv hK hP (ci := 6) (q0 := 0) rfl rfl) hK hN hP rfl hl.1 rfl (Nat.le_of_ble_eq_true rfl) dX7_name_111 ⟨Nat.zero_le _, Nat.zero_le _⟩ ?_
                refine nv_eqi (y := nI (ml (M 0) k)) (hok.l (by omega)) ?_
                exact RO.ret (x := nI (ml (M 0) k)) cx hr hlocks dX7_name_114 (by first | contradiction | (simp [mName, mNameK, mE, mMid, b2i, nI_clamp (show k < 2147483648 by omega), mNo_in hn20 hk, c_1, c_2, c_16, c_17, c_18, c_19, w_20] <;> rfl))
              by_cases w_21 : what = 1
              · refine lv_tableIn (tgt := 115) (off := 66) cx.1 cx.2.1 dX7_name_49 (by rw [w_21]; decide) (by rw [w_21]; decide) (by rw [w_21]; decide) (by decide) ?_
                refine lv_aload_n cx.1 cx.2.1 dX7_name_115 rfl (lv_at hl 1 rfl) ?_
                refine lv_iload_n cx.1 cx.2.1 dX7_name_116 rfl (lv_at hl 2 rfl) ?_
                refine RO.callV (As := [.int (nI k)]) (rest := []) cx (c_X7_units l G ad M k hok (by omega)) gX7_name_X7_units rfl hd_X7_units ⟨Nat.le_of_ble_eq_true rfl, Nat.le_of_ble_eq_true rfl⟩ (va_recv hK hP (ci := 6) (q0 := 0) rfl rfl) hK hN hP rfl hl.1 rfl (Nat.le_of_ble_eq_true rfl) dX7_name_117 ⟨Nat.zero_le _, Nat.zero_le _⟩ ?_
                exact RO.ret (x := mU (M 0) k) cx hr hlocks dX7_name_120 (by first | contradiction | (simp [mName, mNameK, mE, mMid, b2i, nI_clamp (show k < 2147483648 by omega), mNo_in hn20 hk, c_1, c_2, c_16, c_17, c_18, c_19, w_21] <;> rfl))
              by_cases w_22 : what = 2
              · refine lv_tableIn (tgt := 121) (off := 72) cx.1 cx.2.1 dX7_name_49 (by rw [w_22]; decide) (by rw [w_22]; decide) (by rw [w_22]; decide) (by decide) ?_
                refine lv_aload_n cx.1 cx.2.1 dX7_name_121 rfl (lv_at hl 1 rfl) ?_
                refine lv_iload_n cx.1 cx.2.1 dX7_name_122 rfl (lv_at hl 2 rfl) ?_
                refine lv_iconst (v := nI 1) cx.1 cx.2.1 dX7_name_123 (by decide) ?_
                refine RO.callV (As := [.int (nI k), .int (nI 1)]) (rest := []) cx (c_X7_of l G ad M k 1 (by omega)) gX7_name_X7_of rfl hd_X7_of ⟨Nat.le_of_ble_eq_true rfl, Nat.le_of_ble_eq_true rfl⟩ (va_recv hK hP (ci := 6) (q0 := 0) rfl rfl) hK hN hP rfl hl.1 rfl (Nat.le_of_ble_eq_true rfl) dX7_name_124 ⟨Nat.zero_le _, Nat.zero_le _⟩ ?_
                exact RO.ret (x := M 0 (57 + 18 * k + 1)) cx hr hlocks dX7_name_127 (by first | contradiction | (simp [mName, mNameK, mE, mMid, b2i, nI_clamp (show k < 2147483648 by omega), mNo_in hn20 hk, c_1, c_2, c_16, c_17, c_18, c_19, w_22] <;> rfl))
              by_cases w_23 : what = 3
              · refine lv_tableIn (tgt := 128) (off := 79) cx.1 cx.2.1 dX7_name_49 (by rw [w_23]; decide) (by rw [w_23]; decide) (by rw [w_23]; decide) (by decide) ?_
                refine lv_aload_n cx.1 cx.2.1 dX7_name_128 rfl (lv_at hl 1 rfl) ?_
                refine lv_iload_n cx.1 cx.2.1 dX7_name_129 rfl (lv_at hl 2 rfl) ?_
                refine RO.callV (As := [.int (nI k)]) (rest := []) cx (c_X7_rowOf l G ad M k hok) gX7_name_X7_rowOf rfl hd_X7_rowOf ⟨Nat.le_of_ble_eq_true rfl, Nat.le_of_ble_eq_true rfl⟩ (va_recv hK hP (ci := 6) (q0 := 0) rfl rfl) hK hN hP rfl hl.1 rfl (Nat.le_of_ble_eq_true rfl) dX7_name_130 ⟨Nat.zero_le _, Nat.zero_le _⟩ ?_
                exact RO.ret (x := mRow (M 0) k) cx hr hlocks dX7_name_133 (by first | contradiction | (simp [mName, mNameK, mE, mMid, b2i, nI_clamp (show k < 2147483648 by omega), mNo_in hn20 hk, c_1, c_2, c_16, c_17, c_18, c_19, w_23] <;> rfl))
              by_cases w_24 : what = 4
              · refine lv_tableIn (tgt := 134) (off := 85) cx.1 cx.2.1 dX7_name_49 (by rw [w_24]; decide) (by rw [w_24]; decide) (by rw [w_24]; decide) (by decide) ?_
                refine lv_iload_n cx.1 cx.2.1 dX7_name_134 rfl (lv_at hl 2 rfl) ?_
                refine lv_aload_n cx.1 cx.2.1 dX7_name_135 rfl (lv_at hl 1 rfl) ?_
                refine va_get (ci := 6) (C := RX7) (T := TX7) (N := 7) (v := .ref (ad 1)) cx.1 cx.2.1 cx.2.2.2.2 iw_X7_name_X7 cx.2.2.2.1 hK hP 0 rfl rfl 0 (by decide) (cx.2.2.2.2 _ fw_X7_name_f7) (fun _ h9 => h9) rfl dX7_name_136 ?_
                refine lv_iconst (v := nI 3) cx.1 cx.2.1 dX7_name_139 (by decide) ?_
                refine nv_iald (j := 3) cx hK hP 1 1 rfl rfl (by omega) (by decide) dX7_name_140 ?_
                refine lv_irem (x := nI k) (y := M 0 3) cx.1 cx.2.1 dX7_name_141 hok.c ?_
                refine nv_eqi (y := irem (nI k) (M 0 3)) rfl ?_
                exact RO.ret (x := irem (nI k) (M 0 3)) cx hr hlocks dX7_name_142 (by first | contradiction | (simp [mName, mNameK, mE, mMid, b2i, nI_clamp (show k < 2147483648 by omega), mNo_in hn20 hk, c_1, c_2, c_16, c_17, c_18, c_19, w_24] <;> rfl))
              by_cases w_25 : what = 5
              · refine lv_tableIn (tgt := 143) (off := 94) cx.1 cx.2.1 dX7_name_49 (by rw [w_25]; decide) (by rw [w_25]; decide) (by rw [w_25]; decide) (by decide) ?_
                refine lv_aload_n cx.1 cx.2.1 dX7_name_143 rfl (lv_at hl 1 rfl) ?_
                refine lv_iload_n cx.1 cx.2.1 dX7_name_144 rfl (lv_at hl 2 rfl) ?_
                refine lv_iload_n cx.1 cx.2.1 dX7_name_145 rfl (lv_at hl 0 rfl) ?_
                refine RO.callV (As := [.int (nI k), .int (mSize (M 0))]) (rest := []) cx (c_X7_begin l G ad M k (mSize (M 0)) hok (by omega)) gX7_name_X7_begin rfl hd_X7_begin ⟨Nat.le_of_ble_eq_true rfl, Nat.le_of_ble_eq_true rfl⟩ (va_recv hK hP (ci := 6) (q0 := 0) rfl rfl) hK hN hP rfl hl.1 rfl (Nat.le_of_ble_eq_true rfl) dX7_name_146 ⟨Nat.zero_le _, Nat.zero_le _⟩ ?_
                exact RO.ret (x := mBeg (M 0) k (mSize (M 0))) cx hr hlocks dX7_name_149 (by first | contradiction | (simp [mName, mNameK, mE, mMid, b2i, nI_clamp (show k < 2147483648 by omega), mNo_in hn20 hk, c_1, c_2, c_16, c_17, c_18, c_19, w_25] <;> rfl))
              by_cases w_26 : what = 6
              · refine lv_tableIn (tgt := 150) (off := 101) cx.1 cx.2.1 dX7_name_49 (by rw [w_26]; decide) (by rw [w_26]; decide) (by rw [w_26]; decide) (by decide) ?_
                refine lv_aload_n cx.1 cx.2.1 dX7_name_150 rfl (lv_at hl 1 rfl) ?_
                refine va_get (ci := 6) (C := RX7) (T := TX7) (N := 7) (v := .ref (ad 1)) cx.1 cx.2.1 cx.2.2.2.2 iw_X7_name_X7 cx.2.2.2.1 hK hP 0 rfl rfl 0 (by decide) (cx.2.2.2.2 _ fw_X7_name_f7) (fun _ h9 => h9) rfl dX7_name_151 ?_
                refine lv_iconst (v := nI 2) cx.1 cx.2.1 dX7_name_154 (by decide) ?_
                refine nv_iald (j := 2) cx hK hP 1 1 rfl rfl (by omega) (by decide) dX7_name_155 ?_
                refine lv_bipush (v := nI 12) cx.1 cx.2.1 dX7_name_156 (by decide) ?_
                refine lv_iload_n cx.1 cx.2.1 dX7_name_158 rfl (lv_at hl 0 rfl) ?_
                refine lv_imul (x := 12) (y := mSize (M 0)) cx.1 cx.2.1 dX7_name_159 ?_
                refine lv_aload_n cx.1 cx.2.1 dX7_name_160 rfl (lv_at hl 1 rfl) ?_
                refine lv_iload_n cx.1 cx.2.1 dX7_name_161 rfl (lv_at hl 2 rfl) ?_
                refine RO.callV (As := [.int (nI k)]) (rest := [.int (12 * (mSize (M 0))), .int (M 0 2)]) cx (c_X7_rowOf l G ad M k hok) gX7_name_X7_rowOf rfl hd_X7_rowOf ⟨Nat.le_of_ble_eq_true rfl, Nat.le_of_ble_eq_true rfl⟩ (va_recv hK hP (ci := 6) (q0 := 0) rfl rfl) hK hN hP rfl hl.1 rfl (Nat.le_of_ble_eq_true rfl) dX7_name_162 ⟨Nat.zero_le _, Nat.zero_le _⟩ ?_
                refine lv_imul (x := 12 * (mSize (M 0))) (y := mRow (M 0) k) cx.1 cx.2.1 dX7_name_165 ?_
                refine lv_iadd (x := M 0 2) (y := (12 * (mSize (M 0))) * (mRow (M 0) k)) cx.1 cx.2.1 dX7_name_166 ?_
                exact RO.ret (x := (M 0 2) + ((12 * (mSize (M 0))) * (mRow (M 0) k))) cx hr hlocks dX7_name_167 (by first | contradiction | (simp [mName, mNameK, mE, mMid, b2i, nI_clamp (show k < 2147483648 by omega), mNo_in hn20 hk, c_1, c_2, c_16, c_17, c_18, c_19, w_26] <;> rfl))
              by_cases w_27 : what = 7
              · refine lv_tableIn (tgt := 168) (off := 119) cx.1 cx.2.1 dX7_name_49 (by rw [w_27]; decide) (by rw [w_27]; decide) (by rw [w_27]; decide) (by decide) ?_
                refine lv_aload_n cx.1 cx.2.1 dX7_name_168 rfl (lv_at hl 1 rfl) ?_
                refine lv_iload_n cx.1 cx.2.1 dX7_name_169 rfl (lv_at hl 2 rfl) ?_
                refine lv_iload_n cx.1 cx.2.1 dX7_name_170 rfl (lv_at hl 0 rfl) ?_
                refine RO.callV (As := [.int (nI k), .int (mSize (M 0))]) (rest := []) cx (c_X7_fits l G ad M k (mSize (M 0)) hok (by omega)) gX7_name_X7_fits rfl hd_X7_fits ⟨Nat.le_of_ble_eq_true rfl, Nat.le_of_ble_eq_true rfl⟩ (va_recv hK hP (ci := 6) (q0 := 0) rfl rfl) hK hN hP rfl hl.1 rfl (Nat.le_of_ble_eq_true rfl) dX7_name_171 ⟨Nat.zero_le _, Nat.zero_le _⟩ ?_
                refine nv_ifz (b := mFits (M 0) k (mSize (M 0))) (tgt := 181) cx dX7_name_174 (by decide) (fun c_28 => ?_) (fun c_28 => ?_)
                · refine lv_iconst (v := nI 0) cx.1 cx.2.1 dX7_name_181 (by decide) ?_
                  exact RO.ret (x := 0) cx hr hlocks dX7_name_182 (by first | contradiction | (simp [mName, mNameK, mE, mMid, b2i, nI_clamp (show k < 2147483648 by omega), mNo_in hn20 hk, c_1, c_2, c_16, c_17, c_18, c_19, w_27, c_28] <;> rfl) | (simp [mName, mNameK, mE, mMid, b2i, nI_clamp (show k < 2147483648 by omega), mNo_in hn20 hk, c_1, c_2, c_16, c_17, c_18, c_19, w_27, c_28]; rw [← c_2]; assumption))
                · refine lv_iconst (v := nI 1) cx.1 cx.2.1 dX7_name_177 (by decide) ?_
                  refine lv_goto (tgt := 182) cx.1 cx.2.1 dX7_name_178 (by decide) ?_
                  exact RO.ret (x := 1) cx hr hlocks dX7_name_182 (by first | contradiction | (simp [mName, mNameK, mE, mMid, b2i, nI_clamp (show k < 2147483648 by omega), mNo_in hn20 hk, c_1, c_2, c_16, c_17, c_18, c_19, w_27, c_28] <;> rfl) | (simp [mName, mNameK, mE, mMid, b2i, nI_clamp (show k < 2147483648 by omega), mNo_in hn20 hk, c_1, c_2, c_16, c_17, c_18, c_19, w_27, c_28]; rw [← c_2]; assumption))
              by_cases w_29 : what = 8
              · refine lv_tableIn (tgt := 183) (off := 134) cx.1 cx.2.1 dX7_name_49 (by rw [w_29]; decide) (by rw [w_29]; decide) (by rw [w_29]; decide) (by decide) ?_
                refine lv_aload_n cx.1 cx.2.1 dX7_name_183 rfl (lv_at hl 1 rfl) ?_
                refine lv_iload_n cx.1 cx.2.1 dX7_name_184 rfl (lv_at hl 2 rfl) ?_
                refine RO.callV (As := [.int (nI k)]) (rest := []) cx (c_X7_units l G ad M k hok (by omega)) gX7_name_X7_units rfl hd_X7_units ⟨Nat.le_of_ble_eq_true rfl, Nat.le_of_ble_eq_true rfl⟩ (va_recv hK hP (ci := 6) (q0 := 0) rfl rfl) hK hN hP rfl hl.1 rfl (Nat.le_of_ble_eq_true rfl) dX7_name_185 ⟨Nat.zero_le _, Nat.zero_le _⟩ ?_
                refine lv_iload_n cx.1 cx.2.1 dX7_name_188 rfl (lv_at hl 0 rfl) ?_
                refine lv_imul (x := mU (M 0) k) (y := mSize (M 0)) cx.1 cx.2.1 dX7_name_189 ?_
                exact RO.ret (x := (mU (M 0) k) * (mSize (M 0))) cx hr hlocks dX7_name_190 (by first | contradiction | (simp [mName, mNameK, mE, mMid, b2i, nI_clamp (show k < 2147483648 by omega), mNo_in hn20 hk, c_1, c_2, c_16, c_17, c_18, c_19, w_29] <;> rfl))
              by_cases w_30 : what = 9
              · refine lv_tableIn (tgt := 191) (off := 142) cx.1 cx.2.1 dX7_name_49 (by rw [w_30]; decide) (by rw [w_30]; decide) (by rw [w_30]; decide) (by decide) ?_
                refine lv_aload_n cx.1 cx.2.1 dX7_name_191 rfl (lv_at hl 1 rfl) ?_
                refine lv_iload_n cx.1 cx.2.1 dX7_name_192 rfl (lv_at hl 2 rfl) ?_
                refine RO.callV (As := [.int (nI k)]) (rest := []) cx (c_X7_columnBegin l G ad M k hok) gX7_name_X7_columnBegin rfl hd_X7_columnBegin ⟨Nat.le_of_ble_eq_true rfl, Nat.le_of_ble_eq_true rfl⟩ (va_recv hK hP (ci := 6) (q0 := 0) rfl rfl) hK hN hP rfl hl.1 rfl (Nat.le_of_ble_eq_true rfl) dX7_name_193 ⟨Nat.zero_le _, Nat.zero_le _⟩ ?_
                refine lv_aload_n cx.1 cx.2.1 dX7_name_196 rfl (lv_at hl 1 rfl) ?_
                refine RO.callV (As := []) (rest := [.int (mCb (M 0) k)]) cx (c_X7_column l G ad M hok) gX7_name_X7_column rfl hd_X7_column ⟨Nat.le_of_ble_eq_true rfl, Nat.le_of_ble_eq_true rfl⟩ (va_recv hK hP (ci := 6) (q0 := 0) rfl rfl) hK hN hP rfl hl.1 rfl (Nat.le_of_ble_eq_true rfl) dX7_name_197 ⟨Nat.zero_le _, Nat.zero_le _⟩ ?_
                refine lv_aload_n cx.1 cx.2.1 dX7_name_200 rfl (lv_at hl 1 rfl) ?_
                refine lv_iload_n cx.1 cx.2.1 dX7_name_201 rfl (lv_at hl 2 rfl) ?_
                refine RO.callV (As := [.int (nI k)]) (rest := [.int (mCol (M 0)), .int (mCb (M 0) k)]) cx (c_X7_units l G ad M k hok (by omega)) gX7_name_X7_units rfl hd_X7_units ⟨Nat.le_of_ble_eq_true rfl, Nat.le_of_ble_eq_true rfl⟩ (va_recv hK hP (ci := 6) (q0 := 0) rfl rfl) hK hN hP rfl hl.1 rfl (Nat.le_of_ble_eq_true rfl) dX7_name_202 ⟨Nat.zero_le _, Nat.zero_le _⟩ ?_
                refine lv_iload_n cx.1 cx.2.1 dX7_name_205 rfl (lv_at hl 0 rfl) ?_
                refine lv_imul (x := mU (M 0) k) (y := mSize (M 0)) cx.1 cx.2.1 dX7_name_206 ?_
                refine lv_isub (x := mCol (M 0)) (y := (mU (M 0) k) * (mSize (M 0))) cx.1 cx.2.1 dX7_name_207 ?_
                refine lv_iconst (v := nI 2) cx.1 cx.2.1 dX7_name_208 (by decide) ?_
                refine RO.callS (As := [.int ((mCol (M 0)) - ((mU (M 0) k) * (mSize (M 0)))), .int 2]) (rest := [.int (mCb (M 0) k)]) cx (c_X7_down l G ((mCol (M 0)) - ((mU (M 0) k) * (mSize (M 0)))) 2 (by decide)) gX7_name_X7_down rfl hd_X7_down ⟨Nat.le_of_ble_eq_true rfl, Nat.le_of_ble_eq_true rfl⟩ hK hN va_P.nil rfl hl.1 rfl (Nat.le_of_ble_eq_true rfl) dX7_name_209 ⟨Nat.zero_le _, Nat.zero_le _⟩ ?_
                refine lv_iadd (x := mCb (M 0) k) (y := mDown ((mCol (M 0)) - ((mU (M 0) k) * (mSize (M 0)))) 2) cx.1 cx.2.1 dX7_name_212 ?_
                refine lv_istore (lv' := [(4, .int ((mCb (M 0) k) + (mDown ((mCol (M 0)) - ((mU (M 0) k) * (mSize (M 0)))) 2))), (3, .int (mSize (M 0))), (0, .ref (ad 0)), (1, .int (nI k)), (2, .int what)]) cx.1 cx.2.1 dX7_name_213 hl (by decide) rfl (fun ls hl => ?_)
                refine lv_iload cx.1 cx.2.1 dX7_name_215 (lv_at hl 0 rfl) ?_
                refine lv_aload_n cx.1 cx.2.1 dX7_name_217 rfl (lv_at hl 2 rfl) ?_
                refine lv_iload_n cx.1 cx.2.1 dX7_name_218 rfl (lv_at hl 3 rfl) ?_
                refine RO.callV (As := [.int (nI k)]) (rest := [.int ((mCb (M 0) k) + (mDown ((mCol (M 0)) - ((mU (M 0) k) * (mSize (M 0)))) 2))]) cx (c_X7_columnBegin l G ad M k hok) gX7_name_X7_columnBegin rfl hd_X7_columnBegin ⟨Nat.le_of_ble_eq_true rfl, Nat.le_of_ble_eq_true rfl⟩ (va_recv hK hP (ci := 6) (q0 := 0) rfl rfl) hK hN hP rfl hl.1 rfl (Nat.le_of_ble_eq_true rfl) dX7_name_219 ⟨Nat.zero_le _, Nat.zero_le _⟩ ?_
                refine lv_icmp_ge (x := (mCb (M 0) k) + (mDown ((mCol (M 0)) - ((mU (M 0) k) * (mSize (M 0)))) 2)) (y := mCb (M 0) k) (tgt := 233) cx.1 cx.2.1 dX7_name_222 (by decide) (fun c_31 => ?_) (fun c_31 => ?_)
                · refine lv_iload cx.1 cx.2.1 dX7_name_233 (lv_at hl 0 rfl) ?_
                  exact RO.ret (x := (mCb (M 0) k) + (mDown ((mCol (M 0)) - ((mU (M 0) k) * (mSize (M 0)))) 2)) cx hr hlocks dX7_name_235 (by first | contradiction | (simp [mName, mNameK, mE, mMid, b2i, nI_clamp (show k < 2147483648 by omega), mNo_in hn20 hk, c_1, c_2, c_16, c_17, c_18, c_19, w_30, c_31] <;> rfl))
                · refine lv_aload_n cx.1 cx.2.1 dX7_name_225 rfl (lv_at hl 2 rfl) ?_
                  refine lv_iload_n cx.1 cx.2.1 dX7_name_226 rfl (lv_at hl 3 rfl) ?_
                  refine RO.callV (As := [.int (nI k)]) (rest := []) cx (c_X7_columnBegin l G ad M k hok) gX7_name_X7_columnBegin rfl hd_X7_columnBegin ⟨Nat.le_of_ble_eq_true rfl, Nat.le_of_ble_eq_true rfl⟩ (va_recv hK hP (ci := 6) (q0 := 0) rfl rfl) hK hN hP rfl hl.1 rfl (Nat.le_of_ble_eq_true rfl) dX7_name_227 ⟨Nat.zero_le _, Nat.zero_le _⟩ ?_
                  refine lv_goto (tgt := 235) cx.1 cx.2.1 dX7_name_230 (by decide) ?_
                  exact RO.ret (x := mCb (M 0) k) cx hr hlocks dX7_name_235 (by first | contradiction | (simp [mName, mNameK, mE, mMid, b2i, nI_clamp (show k < 2147483648 by omega), mNo_in hn20 hk, c_1, c_2, c_16, c_17, c_18, c_19, w_30, c_31] <;> rfl))
              by_cases w_32 : what = 10
              · refine lv_tableIn (tgt := 236) (off := 187) cx.1 cx.2.1 dX7_name_49 (by rw [w_32]; decide) (by rw [w_32]; decide) (by rw [w_32]; decide) (by decide) ?_
                refine lv_aload_n cx.1 cx.2.1 dX7_name_236 rfl (lv_at hl 1 rfl) ?_
                refine lv_iload_n cx.1 cx.2.1 dX7_name_237 rfl (lv_at hl 2 rfl) ?_
                refine RO.callV (As := [.int (nI k)]) (rest := []) cx (c_X7_inkOf l G ad M k hok (by omega)) gX7_name_X7_inkOf rfl hd_X7_inkOf ⟨Nat.le_of_ble_eq_true rfl, Nat.le_of_ble_eq_true rfl⟩ (va_recv hK hP (ci := 6) (q0 := 0) rfl rfl) hK hN hP rfl hl.1 rfl (Nat.le_of_ble_eq_true rfl) dX7_name_238 ⟨Nat.zero_le _, Nat.zero_le _⟩ ?_
                exact RO.ret (x := mInk (M 0) k) cx hr hlocks dX7_name_241 (by first | contradiction | (simp [mName, mNameK, mE, mMid, b2i, nI_clamp (show k < 2147483648 by omega), mNo_in hn20 hk, c_1, c_2, c_16, c_17, c_18, c_19, w_32] <;> rfl))
              refine lv_tableOut (tgt := 242) cx.1 cx.2.1 dX7_name_49 (sw_out what [0, 1, 2, 3, 4, 5, 6, 7, 8, 9, 10] (List.forall_mem_cons.mpr ⟨sw_ne w_20 (by decide), (List.forall_mem_cons.mpr ⟨sw_ne w_21 (by decide), (List.forall_mem_cons.mpr ⟨sw_ne w_22 (by decide), (List.forall_mem_cons.mpr ⟨sw_ne w_23 (by decide), (List.forall_mem_cons.mpr ⟨sw_ne w_24 (by decide), (List.forall_mem_cons.mpr ⟨sw_ne w_25 (by decide), (List.forall_mem_cons.mpr ⟨sw_ne w_26 (by decide), (List.forall_mem_cons.mpr ⟨sw_ne w_27 (by decide), (List.forall_mem_cons.mpr ⟨sw_ne w_29 (by decide), (List.forall_mem_cons.mpr ⟨sw_ne w_30 (by decide), (List.forall_mem_cons.mpr ⟨sw_ne w_32 (by decide), (fun _ h => absurd h List.not_mem_nil)⟩)⟩)⟩)⟩)⟩)⟩)⟩)⟩)⟩)⟩)⟩) (fun z h1 h2 => by simp only [List.mem_cons, List.not_mem_nil, or_false]; omega)) (by decide) ?_
              refine lv_sipush (v := (-1002)) cx.1 cx.2.1 dX7_name_242 (by decide) ?_
              exact RO.ret (x := (-1002)) cx hr hlocks dX7_name_245 (by first | contradiction | (simp [mName, mNameK, mE, mMid, b2i, nI_clamp (show k < 2147483648 by omega), mNo_in hn20 hk, c_1, c_2, c_16, c_17, c_18, c_19, w_20, w_21, w_22, w_23, w_24, w_25, w_26, w_27, w_29, w_30, w_32] <;> rfl))
            · refine lv_sipush (v := (-1005)) cx.1 cx.2.1 dX7_name_44 (by decide) ?_
              exact RO.ret (x := (-1005)) cx hr hlocks dX7_name_47 (by first | contradiction | (simp [mName, mNameK, mE, mMid, b2i, nI_clamp (show k < 2147483648 by omega), mNo_in hn20 hk, c_1, c_2, c_16, c_17, c_18, c_19] <;> rfl))
  · refine lv_sipush (v := (-1001)) cx.1 cx.2.1 dX7_name_8 (by decide) ?_
    exact RO.ret (x := (-1001)) cx hr hlocks dX7_name_11 (by simp [mName, c_1])

set_option maxHeartbeats 4000000 in
set_option maxRecDepth 100000 in
theorem c_X7_sign (l : Launch) (G : GG) (ad : Nat → Nat) (M : XS) (seat : Int32) (index : Int32) (what : Int32) (hok : okM (M 0)) : RO l yX7_sign wsX7_sign 9 197 G (mdC G ad M) [.ref (ad 0), .int seat, .int index, .int what] (mSign (M 0) seat index what) := by
  refine RO.start (cc := cX7_sign) (maxL := 6) (ret := (some .int)) (by decide) rfl (Nat.le_of_ble_eq_true rfl) ?_
  intro p e s m below meth c ls cx hr hlocks hK hN hP hl
  have cx : CallFix p m c cX7_sign 6 s [.ref (ad 0), .int seat, .int index, .int what].toArray wsX7_sign RX7 := cx
  have hl : lv_has ls 6 [(0, .ref (ad 0)), (1, .int seat), (2, .int index), (3, .int what)] := hl
  refine lv_aload_n cx.1 cx.2.1 dX7_sign_0 rfl (lv_at hl 0 rfl) ?_
  refine lv_iload_n cx.1 cx.2.1 dX7_sign_1 rfl (lv_at hl 1 rfl) ?_
  refine RO.callV (As := [.int seat]) (rest := []) cx (c_X7_noSeat l G ad M seat hok) gX7_sign_X7_noSeat rfl hd_X7_noSeat ⟨Nat.le_of_ble_eq_true rfl, Nat.le_of_ble_eq_true rfl⟩ (va_recv hK hP (ci := 6) (q0 := 0) rfl rfl) hK hN hP rfl hl.1 rfl (Nat.le_of_ble_eq_true rfl) dX7_sign_2 ⟨Nat.zero_le _, Nat.zero_le _⟩ ?_
  refine nv_ifnz (b := mNo (M 0) seat) (tgt := 24) cx dX7_sign_5 (by decide) (fun c_1 => ?_) (fun c_1 => ?_)
  · refine lv_sipush (v := (-1001)) cx.1 cx.2.1 dX7_sign_24 (by decide) ?_
    exact RO.ret (x := (-1001)) cx hr hlocks dX7_sign_27 (by first | (simp [mSign, c_1]; done) | simp [mSign, mSignK, nI_clamp (show k < 2147483648 by omega), mNo_in hn20 hk, c_1])
  · obtain ⟨k, hk, rfl⟩ := mNo_no hok.n20 c_1
    have hn20 := hok.n20
    have hl1 := hok.l1 hk
    have hl16 := hok.l16 hk
    refine lv_iload_n cx.1 cx.2.1 dX7_sign_8 rfl (lv_at hl 2 rfl) ?_
    refine lv_iconst (v := nI 0) cx.1 cx.2.1 dX7_sign_9 (by decide) ?_
    refine lv_aload_n cx.1 cx.2.1 dX7_sign_10 rfl (lv_at hl 0 rfl) ?_
    refine lv_iload_n cx.1 cx.2.1 dX7_sign_11 rfl (lv_at hl 1 rfl) ?_
    refine lv_iconst (v := nI 0) cx.1 cx.2.1 dX7_sign_12 (by decide) ?_
    refine RO.callV (As := [.int (nI k), .int (nI 0)]) (rest := [.int (nI 0), .int index]) cx (c_X7_of l G ad M k 0 (by omega)) gX7_sign_X7_of rfl hd_X7_of ⟨Nat.le_of_ble_eq_true rfl, Nat.le_of_ble_eq_true rfl⟩ (va_recv hK hP (ci := 6) (q0 := 0) rfl rfl) hK hN hP rfl hl.1 rfl (Nat.le_of_ble_eq_true rfl) dX7_sign_13 ⟨Nat.zero_le _, Nat.zero_le _⟩ ?_
    refine nv_eqi (y := nI (ml (M 0) k)) (hok.l (by omega)) ?_
    refine lv_iconst (v := nI 1) cx.1 cx.2.1 dX7_sign_16 (by decide) ?_
    refine nv_isub cx (a := ml (M 0) k) (b := 1) (by omega) dX7_sign_17 ?_
    refine RO.callS (As := [.int index, .int 0, .int (nI (ml (M 0) k - 1))]) (rest := []) cx (c_X7_in l G index 0 (nI (ml (M 0) k - 1))) gX7_sign_X7_in rfl hd_X7_in ⟨Nat.le_of_ble_eq_true rfl, Nat.le_of_ble_eq_true rfl⟩ hK hN va_P.nil rfl hl.1 rfl (Nat.le_of_ble_eq_true rfl) dX7_sign_18 ⟨Nat.zero_le _, Nat.zero_le _⟩ ?_
    refine nv_ifnz (b := inR index 0 (nI (ml (M 0) k - 1))) (tgt := 28) cx dX7_sign_21 (by decide) (fun c_2 => ?_) (fun c_2 => ?_)
    · obtain ⟨j, hj, rfl⟩ := inR_of (by omega) c_2
      refine lv_aload_n cx.1 cx.2.1 dX7_sign_28 rfl (lv_at hl 0 rfl) ?_
      refine lv_iload_n cx.1 cx.2.1 dX7_sign_29 rfl (lv_at hl 1 rfl) ?_
      refine lv_iload_n cx.1 cx.2.1 dX7_sign_30 rfl (lv_at hl 2 rfl) ?_
      refine RO.callV (As := [.int (nI k), .int (nI j)]) (rest := []) cx (c_X7_signOf l G ad M k j (by omega)) gX7_sign_X7_signOf rfl hd_X7_signOf ⟨Nat.le_of_ble_eq_true rfl, Nat.le_of_ble_eq_true rfl⟩ (va_recv hK hP (ci := 6) (q0 := 0) rfl rfl) hK hN hP rfl hl.1 rfl (Nat.le_of_ble_eq_true rfl) dX7_sign_31 ⟨Nat.zero_le _, Nat.zero_le _⟩ ?_
      refine lv_istore (lv' := [(4, .int (mSg (M 0) k j)), (0, .ref (ad 0)), (1, .int (nI k)), (2, .int (nI j)), (3, .int what)]) cx.1 cx.2.1 dX7_sign_34 hl (by decide) rfl (fun ls hl => ?_)
      refine lv_iload_n cx.1 cx.2.1 dX7_sign_36 rfl (lv_at hl 4 rfl) ?_
      refine lv_iconst (v := nI 3) cx.1 cx.2.1 dX7_sign_37 (by decide) ?_
      refine lv_iconst (v := nI 4) cx.1 cx.2.1 dX7_sign_38 (by decide) ?_
      refine RO.callS (As := [.int what, .int 3, .int 4]) (rest := []) cx (c_X7_in l G what 3 4) gX7_sign_X7_in rfl hd_X7_in ⟨Nat.le_of_ble_eq_true rfl, Nat.le_of_ble_eq_true rfl⟩ hK hN va_P.nil rfl hl.1 rfl (Nat.le_of_ble_eq_true rfl) dX7_sign_39 ⟨Nat.zero_le _, Nat.zero_le _⟩ ?_
      refine nv_ifz (b := inR what 3 4) (tgt := 101) cx dX7_sign_42 (by decide) (fun c_3 => ?_) (fun c_3 => ?_)
      · have n34 := inR34n c_3
        refine lv_aload_n cx.1 cx.2.1 dX7_sign_101 rfl (lv_at hl 1 rfl) ?_
        refine RO.callV (As := []) (rest := []) cx (c_X7_size l G ad M hok) gX7_sign_X7_size rfl hd_X7_size ⟨Nat.le_of_ble_eq_true rfl, Nat.le_of_ble_eq_true rfl⟩ (va_recv hK hP (ci := 6) (q0 := 0) rfl rfl) hK hN hP rfl hl.1 rfl (Nat.le_of_ble_eq_true rfl) dX7_sign_102 ⟨Nat.zero_le _, Nat.zero_le _⟩ ?_
        refine lv_istore (lv' := [(5, .int (mSize (M 0))), (4, .int (mSg (M 0) k j)), (0, .ref (ad 0)), (1, .int (nI k)), (2, .int (nI j)), (3, .int what)]) cx.1 cx.2.1 dX7_sign_105 hl (by decide) rfl (fun ls hl => ?_)
        refine lv_iload_n cx.1 cx.2.1 dX7_sign_107 rfl (lv_at hl 5 rfl) ?_
        by_cases w_4 : what = 0
        · refine lv_tableIn (tgt := 148) (off := 40) cx.1 cx.2.1 dX7_sign_108 (by rw [w_4]; decide) (by rw [w_4]; decide) (by rw [w_4]; decide) (by decide) ?_
          refine lv_iload cx.1 cx.2.1 dX7_sign_148 (lv_at hl 1 rfl) ?_
          exact RO.ret (x := mSg (M 0) k j) cx hr hlocks dX7_sign_150 (by simp only [mSign, mSignK, mSignJ, nI_clamp (show k < 2147483648 by omega), nI_clamp (show j < 2147483648 by omega), mNo_in hn20 hk, inR_in (show ml (M 0) k - 1 < 2147483648 by omega) hj]; simp [c_1, c_2, c_3, n34.1, n34.2, w_4])
        by_cases w_5 : what = 1
        · refine lv_tableIn (tgt := 151) (off := 43) cx.1 cx.2.1 dX7_sign_108 (by rw [w_5]; decide) (by rw [w_5]; decide) (by rw [w_5]; decide) (by decide) ?_
          refine lv_aload_n cx.1 cx.2.1 dX7_sign_151 rfl (lv_at hl 2 rfl) ?_
          refine lv_iload_n cx.1 cx.2.1 dX7_sign_152 rfl (lv_at hl 3 rfl) ?_
          refine lv_iload_n cx.1 cx.2.1 dX7_sign_153 rfl (lv_at hl 4 rfl) ?_
          refine RO.callV (As := [.int (nI k), .int (nI j)]) (rest := []) cx (c_X7_unitsTo l G ad M k j hok (by omega) (by omega)) gX7_sign_X7_unitsTo rfl hd_X7_unitsTo ⟨Nat.le_of_ble_eq_true rfl, Nat.le_of_ble_eq_true rfl⟩ (va_recv hK hP (ci := 6) (q0 := 0) rfl rfl) hK hN hP rfl hl.1 rfl (Nat.le_of_ble_eq_true rfl) dX7_sign_154 ⟨Nat.zero_le _, Nat.zero_le _⟩ ?_
          exact RO.ret (x := mUt (M 0) k j) cx hr hlocks dX7_sign_157 (by simp only [mSign, mSignK, mSignJ, nI_clamp (show k < 2147483648 by omega), nI_clamp (show j < 2147483648 by omega), mNo_in hn20 hk, inR_in (show ml (M 0) k - 1 < 2147483648 by omega) hj]; simp [c_1, c_2, c_3, n34.1, n34.2, w_5])
        by_cases w_6 : what = 2
        · refine lv_tableIn (tgt := 158) (off := 50) cx.1 cx.2.1 dX7_sign_108 (by rw [w_6]; decide) (by rw [w_6]; decide) (by rw [w_6]; decide) (by decide) ?_
          refine lv_iload cx.1 cx.2.1 dX7_sign_158 (lv_at hl 1 rfl) ?_
          refine RO.callS (As := [.int (mSg (M 0) k j)]) (rest := []) cx (c_X7_wide l G (mSg (M 0) k j)) gX7_sign_X7_wide rfl hd_X7_wide ⟨Nat.le_of_ble_eq_true rfl, Nat.le_of_ble_eq_true rfl⟩ hK hN va_P.nil rfl hl.1 rfl (Nat.le_of_ble_eq_true rfl) dX7_sign_160 ⟨Nat.zero_le _, Nat.zero_le _⟩ ?_
          exact RO.ret (x := mW (mSg (M 0) k j)) cx hr hlocks dX7_sign_163 (by simp only [mSign, mSignK, mSignJ, nI_clamp (show k < 2147483648 by omega), nI_clamp (show j < 2147483648 by omega), mNo_in hn20 hk, inR_in (show ml (M 0) k - 1 < 2147483648 by omega) hj]; simp [c_1, c_2, c_3, n34.1, n34.2, w_6])
        by_cases w_7 : what = 3
        · exact absurd w_7 n34.1
        by_cases w_8 : what = 4
        · exact absurd w_8 n34.2
        by_cases w_9 : what = 5
        · refine lv_tableIn (tgt := 164) (off := 56) cx.1 cx.2.1 dX7_sign_108 (by rw [w_9]; decide) (by rw [w_9]; decide) (by rw [w_9]; decide) (by decide) ?_
          refine lv_iload cx.1 cx.2.1 dX7_sign_164 (lv_at hl 0 rfl) ?_
          refine lv_if_ne (x := mSize (M 0)) (tgt := 175) cx.1 cx.2.1 dX7_sign_166 (by decide) (fun c_10 => ?_) (fun c_10 => ?_)
          · refine lv_aload_n cx.1 cx.2.1 dX7_sign_175 rfl (lv_at hl 2 rfl) ?_
            refine lv_iload_n cx.1 cx.2.1 dX7_sign_176 rfl (lv_at hl 3 rfl) ?_
            refine lv_iload cx.1 cx.2.1 dX7_sign_177 (lv_at hl 0 rfl) ?_
            refine RO.callV (As := [.int (nI k), .int (mSize (M 0))]) (rest := []) cx (c_X7_begin l G ad M k (mSize (M 0)) hok (by omega)) gX7_sign_X7_begin rfl hd_X7_begin ⟨Nat.le_of_ble_eq_true rfl, Nat.le_of_ble_eq_true rfl⟩ (va_recv hK hP (ci := 6) (q0 := 0) rfl rfl) hK hN hP rfl hl.1 rfl (Nat.le_of_ble_eq_true rfl) dX7_sign_179 ⟨Nat.zero_le _, Nat.zero_le _⟩ ?_
            refine lv_iload cx.1 cx.2.1 dX7_sign_182 (lv_at hl 0 rfl) ?_
            refine lv_aload_n cx.1 cx.2.1 dX7_sign_184 rfl (lv_at hl 2 rfl) ?_
            refine lv_iload_n cx.1 cx.2.1 dX7_sign_185 rfl (lv_at hl 3 rfl) ?_
            refine lv_iload_n cx.1 cx.2.1 dX7_sign_186 rfl (lv_at hl 4 rfl) ?_
            refine RO.callV (As := [.int (nI k), .int (nI j)]) (rest := [.int (mSize (M 0)), .int (mBeg (M 0) k (mSize (M 0)))]) cx (c_X7_unitsTo l G ad M k j hok (by omega) (by omega)) gX7_sign_X7_unitsTo rfl hd_X7_unitsTo ⟨Nat.le_of_ble_eq_true rfl, Nat.le_of_ble_eq_true rfl⟩ (va_recv hK hP (ci := 6) (q0 := 0) rfl rfl) hK hN hP rfl hl.1 rfl (Nat.le_of_ble_eq_true rfl) dX7_sign_187 ⟨Nat.zero_le _, Nat.zero_le _⟩ ?_
            refine lv_imul (x := mSize (M 0)) (y := mUt (M 0) k j) cx.1 cx.2.1 dX7_sign_190 ?_
            refine lv_iadd (x := mBeg (M 0) k (mSize (M 0))) (y := (mSize (M 0)) * (mUt (M 0) k j)) cx.1 cx.2.1 dX7_sign_191 ?_
            exact RO.ret (x := (mBeg (M 0) k (mSize (M 0))) + ((mSize (M 0)) * (mUt (M 0) k j))) cx hr hlocks dX7_sign_192 (by simp only [mSign, mSignK, mSignJ, nI_clamp (show k < 2147483648 by omega), nI_clamp (show j < 2147483648 by omega), mNo_in hn20 hk, inR_in (show ml (M 0) k - 1 < 2147483648 by omega) hj]; simp [c_1, c_2, c_3, n34.1, n34.2, w_9, c_10])
          · refine lv_sipush (v := (-1005)) cx.1 cx.2.1 dX7_sign_169 (by decide) ?_
            refine lv_goto (tgt := 192) cx.1 cx.2.1 dX7_sign_172 (by decide) ?_
            exact RO.ret (x := (-1005)) cx hr hlocks dX7_sign_192 (by simp only [mSign, mSignK, mSignJ, nI_clamp (show k < 2147483648 by omega), nI_clamp (show j < 2147483648 by omega), mNo_in hn20 hk, inR_in (show ml (M 0) k - 1 < 2147483648 by omega) hj]; simp [c_1, c_2, c_3, n34.1, n34.2, w_9, c_10])
        refine lv_tableOut (tgt := 193) cx.1 cx.2.1 dX7_sign_108 (sw_out what [0, 1, 2, 3, 4, 5] (List.forall_mem_cons.mpr ⟨sw_ne w_4 (by decide), (List.forall_mem_cons.mpr ⟨sw_ne w_5 (by decide), (List.forall_mem_cons.mpr ⟨sw_ne w_6 (by decide), (List.forall_mem_cons.mpr ⟨sw_ne w_7 (by decide), (List.forall_mem_cons.mpr ⟨sw_ne w_8 (by decide), (List.forall_mem_cons.mpr ⟨sw_ne w_9 (by decide), (fun _ h => absurd h List.not_mem_nil)⟩)⟩)⟩)⟩)⟩)⟩) (fun z h1 h2 => by simp only [List.mem_cons, List.not_mem_nil, or_false]; omega)) (by decide) ?_
        refine lv_sipush (v := (-1002)) cx.1 cx.2.1 dX7_sign_193 (by decide) ?_
        exact RO.ret (x := (-1002)) cx hr hlocks dX7_sign_196 (by simp only [mSign, mSignK, mSignJ, nI_clamp (show k < 2147483648 by omega), nI_clamp (show j < 2147483648 by omega), mNo_in hn20 hk, inR_in (show ml (M 0) k - 1 < 2147483648 by omega) hj]; simp [c_1, c_2, c_3, n34.1, n34.2, w_4, w_5, w_6, w_7, w_8, w_9])
      · have h34 := inR34 c_3
        refine lv_iload_n cx.1 cx.2.1 dX7_sign_45 rfl (lv_at hl 3 rfl) ?_
        refine lv_aload_n cx.1 cx.2.1 dX7_sign_46 rfl (lv_at hl 1 rfl) ?_
        refine lv_iload_n cx.1 cx.2.1 dX7_sign_47 rfl (lv_at hl 2 rfl) ?_
        refine lv_iconst (v := nI 0) cx.1 cx.2.1 dX7_sign_48 (by decide) ?_
        refine RO.callV (As := [.int (nI k), .int (nI 0)]) (rest := [.int (nI j)]) cx (c_X7_of l G ad M k 0 (by omega)) gX7_sign_X7_of rfl hd_X7_of ⟨Nat.le_of_ble_eq_true rfl, Nat.le_of_ble_eq_true rfl⟩ (va_recv hK hP (ci := 6) (q0 := 0) rfl rfl) hK hN hP rfl hl.1 rfl (Nat.le_of_ble_eq_true rfl) dX7_sign_49 ⟨Nat.zero_le _, Nat.zero_le _⟩ ?_
        refine nv_eqi (y := nI (ml (M 0) k)) (hok.l (by omega)) ?_
        refine lv_iconst (v := nI 1) cx.1 cx.2.1 dX7_sign_52 (by decide) ?_
        refine nv_isub cx (a := ml (M 0) k) (b := 1) (by omega) dX7_sign_53 ?_
        refine nv_icmp_ne (a := j) (b := ml (M 0) k - 1) (tgt := 61) cx dX7_sign_54 (by decide) (by omega) (by omega) (fun c_11 => ?_) (fun c_11 => ?_)
        · refine lv_aload_n cx.1 cx.2.1 dX7_sign_61 rfl (lv_at hl 1 rfl) ?_
          refine lv_iload_n cx.1 cx.2.1 dX7_sign_62 rfl (lv_at hl 2 rfl) ?_
          refine lv_iload_n cx.1 cx.2.1 dX7_sign_63 rfl (lv_at hl 3 rfl) ?_
          refine lv_iconst (v := nI 1) cx.1 cx.2.1 dX7_sign_64 (by decide) ?_
          refine nv_iadd cx (a := j) (b := 1) dX7_sign_65 ?_
          refine RO.callV (As := [.int (nI k), .int (nI (j + 1))]) (rest := []) cx (c_X7_signOf l G ad M k (j + 1) (by omega)) gX7_sign_X7_signOf rfl hd_X7_signOf ⟨Nat.le_of_ble_eq_true rfl, Nat.le_of_ble_eq_true rfl⟩ (va_recv hK hP (ci := 6) (q0 := 0) rfl rfl) hK hN hP rfl hl.1 rfl (Nat.le_of_ble_eq_true rfl) dX7_sign_66 ⟨Nat.zero_le _, Nat.zero_le _⟩ ?_
          refine lv_istore (lv' := [(5, .int (mSg (M 0) k (j + 1))), (4, .int (mSg (M 0) k j)), (0, .ref (ad 0)), (1, .int (nI k)), (2, .int (nI j)), (3, .int what)]) cx.1 cx.2.1 dX7_sign_69 hl (by decide) rfl (fun ls hl => ?_)
          refine lv_aload_n cx.1 cx.2.1 dX7_sign_71 rfl (lv_at hl 2 rfl) ?_
          refine lv_iload cx.1 cx.2.1 dX7_sign_72 (lv_at hl 1 rfl) ?_
          refine lv_iload cx.1 cx.2.1 dX7_sign_74 (lv_at hl 0 rfl) ?_
          refine RO.callV (As := [.int (mSg (M 0) k j), .int (mSg (M 0) k (j + 1))]) (rest := []) cx (c_X7_space l G ad M (mSg (M 0) k j) (mSg (M 0) k (j + 1)) hok) gX7_sign_X7_space rfl hd_X7_space ⟨Nat.le_of_ble_eq_true rfl, Nat.le_of_ble_eq_true rfl⟩ (va_recv hK hP (ci := 6) (q0 := 0) rfl rfl) hK hN hP rfl hl.1 rfl (Nat.le_of_ble_eq_true rfl) dX7_sign_76 ⟨Nat.zero_le _, Nat.zero_le _⟩ ?_
          refine lv_iload_n cx.1 cx.2.1 dX7_sign_79 rfl (lv_at hl 5 rfl) ?_
          refine lv_iconst (v := nI 3) cx.1 cx.2.1 dX7_sign_80 (by decide) ?_
          refine lv_icmp_ne (x := what) (y := 3) (tgt := 88) cx.1 cx.2.1 dX7_sign_81 (by decide) (fun c_12 => ?_) (fun c_12 => ?_)
          · refine lv_iload cx.1 cx.2.1 dX7_sign_88 (lv_at hl 1 rfl) ?_
            refine RO.callS (As := [.int (mSg (M 0) k j)]) (rest := [.int (mSpace (M 0) (mSg (M 0) k j) (mSg (M 0) k (j + 1)))]) cx (c_X7_open l G (mSg (M 0) k j)) gX7_sign_X7_open rfl hd_X7_open ⟨Nat.le_of_ble_eq_true rfl, Nat.le_of_ble_eq_true rfl⟩ hK hN va_P.nil rfl hl.1 rfl (Nat.le_of_ble_eq_true rfl) dX7_sign_90 ⟨Nat.zero_le _, Nat.zero_le _⟩ ?_
            refine lv_iload cx.1 cx.2.1 dX7_sign_93 (lv_at hl 0 rfl) ?_
            refine RO.callS (As := [.int (mSg (M 0) k (j + 1))]) (rest := [.int (mO (mSg (M 0) k j)), .int (mSpace (M 0) (mSg (M 0) k j) (mSg (M 0) k (j + 1)))]) cx (c_X7_open l G (mSg (M 0) k (j + 1))) gX7_sign_X7_open rfl hd_X7_open ⟨Nat.le_of_ble_eq_true rfl, Nat.le_of_ble_eq_true rfl⟩ hK hN va_P.nil rfl hl.1 rfl (Nat.le_of_ble_eq_true rfl) dX7_sign_95 ⟨Nat.zero_le _, Nat.zero_le _⟩ ?_
            refine lv_iadd (x := mO (mSg (M 0) k j)) (y := mO (mSg (M 0) k (j + 1))) cx.1 cx.2.1 dX7_sign_98 ?_
            refine lv_iadd (x := mSpace (M 0) (mSg (M 0) k j) (mSg (M 0) k (j + 1))) (y := (mO (mSg (M 0) k j)) + (mO (mSg (M 0) k (j + 1)))) cx.1 cx.2.1 dX7_sign_99 ?_
            exact RO.ret (x := (mSpace (M 0) (mSg (M 0) k j) (mSg (M 0) k (j + 1))) + ((mO (mSg (M 0) k j)) + (mO (mSg (M 0) k (j + 1))))) cx hr hlocks dX7_sign_100 (by simp only [mSign, mSignK, mSignJ, nI_clamp (show k < 2147483648 by omega), nI_clamp (show j < 2147483648 by omega), mNo_in hn20 hk, inR_in (show ml (M 0) k - 1 < 2147483648 by omega) hj]; first | (simp [c_1, c_2, c_3, h34, c_11, c_12]; done) | (have h4 : what = 4 := h34.resolve_left (by assumption); simp [c_1, c_2, c_3, h34, c_11, c_12, h4]))
          · refine lv_iconst (v := nI 0) cx.1 cx.2.1 dX7_sign_84 (by decide) ?_
            refine lv_goto (tgt := 99) cx.1 cx.2.1 dX7_sign_85 (by decide) ?_
            refine lv_iadd (x := mSpace (M 0) (mSg (M 0) k j) (mSg (M 0) k (j + 1))) (y := 0) cx.1 cx.2.1 dX7_sign_99 ?_
            exact RO.ret (x := (mSpace (M 0) (mSg (M 0) k j) (mSg (M 0) k (j + 1))) + 0) cx hr hlocks dX7_sign_100 (by simp only [mSign, mSignK, mSignJ, nI_clamp (show k < 2147483648 by omega), nI_clamp (show j < 2147483648 by omega), mNo_in hn20 hk, inR_in (show ml (M 0) k - 1 < 2147483648 by omega) hj]; first | (simp [c_1, c_2, c_3, h34, c_11, c_12]; done) | (have h4 : what = 4 := h34.resolve_left (by assumption); simp [c_1, c_2, c_3, h34, c_11, c_12, h4]))
        · refine lv_sipush (v := (-1005)) cx.1 cx.2.1 dX7_sign_57 (by decide) ?_
          exact RO.ret (x := (-1005)) cx hr hlocks dX7_sign_60 (by simp only [mSign, mSignK, mSignJ, nI_clamp (show k < 2147483648 by omega), nI_clamp (show j < 2147483648 by omega), mNo_in hn20 hk, inR_in (show ml (M 0) k - 1 < 2147483648 by omega) hj]; simp [c_1, c_2, c_3, h34, c_11])
    · refine lv_sipush (v := (-1001)) cx.1 cx.2.1 dX7_sign_24 (by decide) ?_
      exact RO.ret (x := (-1001)) cx hr hlocks dX7_sign_27 (by first | (simp [mSign, c_1, c_2]; done) | simp [mSign, mSignK, nI_clamp (show k < 2147483648 by omega), mNo_in hn20 hk, c_1, c_2])

set_option maxHeartbeats 4000000 in
set_option maxRecDepth 100000 in
theorem c_X7_sizeBy (l : Launch) (G : GG) (ad : Nat → Nat) (M : XS) (w : Int32) (h : Int32) (hok : okM (M 0)) : RO l yX7_sizeBy wsX7_sizeBy 8 177 G (mdC G ad M) [.ref (ad 0), .int w, .int h] (mSizeBy (M 0) w h) := by
  refine RO.start (cc := cX7_sizeBy) (maxL := 3) (ret := (some .int)) (by decide) rfl (Nat.le_of_ble_eq_true rfl) ?_
  intro p e s m below meth c ls cx hr hlocks hK hN hP hl
  have cx : CallFix p m c cX7_sizeBy 3 s [.ref (ad 0), .int w, .int h].toArray wsX7_sizeBy RX7 := cx
  have hl : lv_has ls 3 [(0, .ref (ad 0)), (1, .int w), (2, .int h)] := hl
  refine lv_iload_n cx.1 cx.2.1 dX7_sizeBy_0 rfl (lv_at hl 1 rfl) ?_
  refine lv_sipush (v := nI 300) cx.1 cx.2.1 dX7_sizeBy_1 (by decide) ?_
  refine lv_sipush (v := nI 6000) cx.1 cx.2.1 dX7_sizeBy_4 (by decide) ?_
  refine RO.callS (As := [.int w, .int 300, .int 6000]) (rest := []) cx (c_X7_in l G w 300 6000) gX7_sizeBy_X7_in rfl hd_X7_in ⟨Nat.le_of_ble_eq_true rfl, Nat.le_of_ble_eq_true rfl⟩ hK hN va_P.nil rfl hl.1 rfl (Nat.le_of_ble_eq_true rfl) dX7_sizeBy_7 ⟨Nat.zero_le _, Nat.zero_le _⟩ ?_
  refine nv_ifz (b := inR w 300 6000) (tgt := 34) cx dX7_sizeBy_10 (by decide) (fun c_1 => ?_) (fun c_1 => ?_)
  · refine lv_sipush (v := (-1002)) cx.1 cx.2.1 dX7_sizeBy_34 (by decide) ?_
    exact RO.ret (x := (-1002)) cx hr hlocks dX7_sizeBy_37 (by simp [mSizeBy, c_1])
  · refine lv_iload_n cx.1 cx.2.1 dX7_sizeBy_13 rfl (lv_at hl 2 rfl) ?_
    refine lv_bipush (v := nI 100) cx.1 cx.2.1 dX7_sizeBy_14 (by decide) ?_
    refine lv_sipush (v := nI 3000) cx.1 cx.2.1 dX7_sizeBy_16 (by decide) ?_
    refine RO.callS (As := [.int h, .int 100, .int 3000]) (rest := []) cx (c_X7_in l G h 100 3000) gX7_sizeBy_X7_in rfl hd_X7_in ⟨Nat.le_of_ble_eq_true rfl, Nat.le_of_ble_eq_true rfl⟩ hK hN va_P.nil rfl hl.1 rfl (Nat.le_of_ble_eq_true rfl) dX7_sizeBy_19 ⟨Nat.zero_le _, Nat.zero_le _⟩ ?_
    refine nv_ifz (b := inR h 100 3000) (tgt := 34) cx dX7_sizeBy_22 (by decide) (fun c_2 => ?_) (fun c_2 => ?_)
    · refine lv_sipush (v := (-1002)) cx.1 cx.2.1 dX7_sizeBy_34 (by decide) ?_
      exact RO.ret (x := (-1002)) cx hr hlocks dX7_sizeBy_37 (by simp [mSizeBy, c_1, c_2])
    · refine lv_aload_n cx.1 cx.2.1 dX7_sizeBy_25 rfl (lv_at hl 0 rfl) ?_
      refine lv_iload_n cx.1 cx.2.1 dX7_sizeBy_26 rfl (lv_at hl 1 rfl) ?_
      refine lv_iload_n cx.1 cx.2.1 dX7_sizeBy_27 rfl (lv_at hl 2 rfl) ?_
      refine RO.callV (As := [.int w, .int h]) (rest := []) cx (c_X7_free l G ad M w h hok) gX7_sizeBy_X7_free rfl hd_X7_free ⟨Nat.le_of_ble_eq_true rfl, Nat.le_of_ble_eq_true rfl⟩ (va_recv hK hP (ci := 6) (q0 := 0) rfl rfl) hK hN hP rfl hl.1 rfl (Nat.le_of_ble_eq_true rfl) dX7_sizeBy_28 ⟨Nat.zero_le _, Nat.zero_le _⟩ ?_
      refine lv_goto (tgt := 37) cx.1 cx.2.1 dX7_sizeBy_31 (by decide) ?_
      exact RO.ret (x := mFree (M 0) w h) cx hr hlocks dX7_sizeBy_37 (by simp [mSizeBy, c_1, c_2])

theorem iw_X7_sizeWithout_X7 : ∀ w ∈ wsX70, w ∈ wsX7_sizeWithout := fun _ h => List.mem_cons_of_mem _ (List.mem_append_right _ h)
theorem fw_X7_sizeWithout_f7 : (Cond.fieldLink RX7 7 "NamePlateModel" "now" "[I") ∈ wsX7_sizeWithout := List.mem_of_getElem? (i := 1) rfl
set_option maxHeartbeats 4000000 in
set_option maxRecDepth 100000 in
theorem c_X7_sizeWithout (l : Launch) (G : GG) (ad : Nat → Nat) (M : XS) (seat : Int32) (hok : okM (M 0)) : RO l yX7_sizeWithout wsX7_sizeWithout 7 155 G (mdC G ad M) [.ref (ad 0), .int seat] (mSizeWo (M 0) seat) := by
  refine RO.start (cc := cX7_sizeWithout) (maxL := 2) (ret := (some .int)) (by decide) rfl (Nat.le_of_ble_eq_true rfl) ?_
  intro p e s m below meth c ls cx hr hlocks hK hN hP hl
  have cx : CallFix p m c cX7_sizeWithout 2 s [.ref (ad 0), .int seat].toArray wsX7_sizeWithout RX7 := cx
  have hl : lv_has ls 2 [(0, .ref (ad 0)), (1, .int seat)] := hl
  refine lv_aload_n cx.1 cx.2.1 dX7_sizeWithout_0 rfl (lv_at hl 0 rfl) ?_
  refine lv_iload_n cx.1 cx.2.1 dX7_sizeWithout_1 rfl (lv_at hl 1 rfl) ?_
  refine RO.callV (As := [.int seat]) (rest := []) cx (c_X7_noSeat l G ad M seat hok) gX7_sizeWithout_X7_noSeat rfl hd_X7_noSeat ⟨Nat.le_of_ble_eq_true rfl, Nat.le_of_ble_eq_true rfl⟩ (va_recv hK hP (ci := 6) (q0 := 0) rfl rfl) hK hN hP rfl hl.1 rfl (Nat.le_of_ble_eq_true rfl) dX7_sizeWithout_2 ⟨Nat.zero_le _, Nat.zero_le _⟩ ?_
  refine nv_ifz (b := mNo (M 0) seat) (tgt := 12) cx dX7_sizeWithout_5 (by decide) (fun c_1 => ?_) (fun c_1 => ?_)
  · refine lv_aload_n cx.1 cx.2.1 dX7_sizeWithout_12 rfl (lv_at hl 0 rfl) ?_
    refine lv_aload_n cx.1 cx.2.1 dX7_sizeWithout_13 rfl (lv_at hl 0 rfl) ?_
    refine lv_iload_n cx.1 cx.2.1 dX7_sizeWithout_14 rfl (lv_at hl 1 rfl) ?_
    refine RO.callV (As := [.int seat]) (rest := [.ref (ad 0)]) cx (c_X7_mostUnits l G ad M seat hok) gX7_sizeWithout_X7_mostUnits rfl hd_X7_mostUnits ⟨Nat.le_of_ble_eq_true rfl, Nat.le_of_ble_eq_true rfl⟩ (va_recv hK hP (ci := 6) (q0 := 0) rfl rfl) hK hN hP rfl hl.1 rfl (Nat.le_of_ble_eq_true rfl) dX7_sizeWithout_15 ⟨Nat.zero_le _, Nat.zero_le _⟩ ?_
    refine lv_aload_n cx.1 cx.2.1 dX7_sizeWithout_18 rfl (lv_at hl 0 rfl) ?_
    refine lv_aload_n cx.1 cx.2.1 dX7_sizeWithout_19 rfl (lv_at hl 0 rfl) ?_
    refine va_get (ci := 6) (C := RX7) (T := TX7) (N := 7) (v := .ref (ad 1)) cx.1 cx.2.1 cx.2.2.2.2 iw_X7_sizeWithout_X7 cx.2.2.2.1 hK hP 0 rfl rfl 0 (by decide) (cx.2.2.2.2 _ fw_X7_sizeWithout_f7) (fun _ h9 => h9) rfl dX7_sizeWithout_20 ?_
    refine lv_iconst (v := nI 4) cx.1 cx.2.1 dX7_sizeWithout_23 (by decide) ?_
    refine nv_iald (j := 4) cx hK hP 1 1 rfl rfl (by omega) (by decide) dX7_sizeWithout_24 ?_
    refine nv_eqi (y := nI (mn (M 0))) hok.n ?_
    refine lv_iconst (v := nI 1) cx.1 cx.2.1 dX7_sizeWithout_25 (by decide) ?_
    refine lv_isub (x := nI (mn (M 0))) (y := 1) cx.1 cx.2.1 dX7_sizeWithout_26 ?_
    refine RO.callV (As := [.int ((nI (mn (M 0))) - 1)]) (rest := [.int (mMost (M 0) seat), .ref (ad 0)]) cx (c_X7_rowsOf l G ad M ((nI (mn (M 0))) - 1) hok) gX7_sizeWithout_X7_rowsOf rfl hd_X7_rowsOf ⟨Nat.le_of_ble_eq_true rfl, Nat.le_of_ble_eq_true rfl⟩ (va_recv hK hP (ci := 6) (q0 := 0) rfl rfl) hK hN hP rfl hl.1 rfl (Nat.le_of_ble_eq_true rfl) dX7_sizeWithout_27 ⟨Nat.zero_le _, Nat.zero_le _⟩ ?_
    refine lv_aload_n cx.1 cx.2.1 dX7_sizeWithout_30 rfl (lv_at hl 0 rfl) ?_
    refine va_get (ci := 6) (C := RX7) (T := TX7) (N := 7) (v := .ref (ad 1)) cx.1 cx.2.1 cx.2.2.2.2 iw_X7_sizeWithout_X7 cx.2.2.2.1 hK hP 0 rfl rfl 0 (by decide) (cx.2.2.2.2 _ fw_X7_sizeWithout_f7) (fun _ h9 => h9) rfl dX7_sizeWithout_31 ?_
    refine lv_iconst (v := nI 0) cx.1 cx.2.1 dX7_sizeWithout_34 (by decide) ?_
    refine nv_iald (j := 0) cx hK hP 1 1 rfl rfl (by omega) (by decide) dX7_sizeWithout_35 ?_
    refine lv_aload_n cx.1 cx.2.1 dX7_sizeWithout_36 rfl (lv_at hl 0 rfl) ?_
    refine va_get (ci := 6) (C := RX7) (T := TX7) (N := 7) (v := .ref (ad 1)) cx.1 cx.2.1 cx.2.2.2.2 iw_X7_sizeWithout_X7 cx.2.2.2.1 hK hP 0 rfl rfl 0 (by decide) (cx.2.2.2.2 _ fw_X7_sizeWithout_f7) (fun _ h9 => h9) rfl dX7_sizeWithout_37 ?_
    refine lv_iconst (v := nI 1) cx.1 cx.2.1 dX7_sizeWithout_40 (by decide) ?_
    refine nv_iald (j := 1) cx hK hP 1 1 rfl rfl (by omega) (by decide) dX7_sizeWithout_41 ?_
    refine RO.callV (As := [.int (mMost (M 0) seat), .int (mRows (M 0) ((nI (mn (M 0))) - 1)), .int (M 0 0), .int (M 0 1)]) (rest := []) cx (c_X7_greatest l G ad M (mMost (M 0) seat) (mRows (M 0) ((nI (mn (M 0))) - 1)) (M 0 0) (M 0 1) hok) gX7_sizeWithout_X7_greatest rfl hd_X7_greatest ⟨Nat.le_of_ble_eq_true rfl, Nat.le_of_ble_eq_true rfl⟩ (va_recv hK hP (ci := 6) (q0 := 0) rfl rfl) hK hN hP rfl hl.1 rfl (Nat.le_of_ble_eq_true rfl) dX7_sizeWithout_42 ⟨Nat.zero_le _, Nat.zero_le _⟩ ?_
    exact RO.ret (x := mGr (M 0) (mMost (M 0) seat) (mRows (M 0) ((nI (mn (M 0))) - 1)) (M 0 0) (M 0 1)) cx hr hlocks dX7_sizeWithout_45 (by simp [mSizeWo, c_1])
  · refine lv_sipush (v := (-1001)) cx.1 cx.2.1 dX7_sizeWithout_8 (by decide) ?_
    exact RO.ret (x := (-1001)) cx hr hlocks dX7_sizeWithout_11 (by simp [mSizeWo, c_1])

theorem iw_X7_leastWidth_X7 : ∀ w ∈ wsX70, w ∈ wsX7_leastWidth := fun _ h => List.mem_cons_of_mem _ (List.mem_append_right _ h)
theorem fw_X7_leastWidth_f7 : (Cond.fieldLink RX7 7 "NamePlateModel" "now" "[I") ∈ wsX7_leastWidth := List.mem_of_getElem? (i := 1) rfl
set_option maxHeartbeats 4000000 in
set_option maxRecDepth 100000 in
theorem c_X7_leastWidth (l : Launch) (G : GG) (ad : Nat → Nat) (M : XS) (z : Int32) (hok : okM (M 0)) : RO l yX7_leastWidth wsX7_leastWidth 7 155 G (mdC G ad M) [.ref (ad 0), .int z] (mLeast (M 0) z) := by
  refine RO.start (cc := cX7_leastWidth) (maxL := 3) (ret := (some .int)) (by decide) rfl (Nat.le_of_ble_eq_true rfl) ?_
  intro p e s m below meth c ls cx hr hlocks hK hN hP hl
  have cx : CallFix p m c cX7_leastWidth 3 s [.ref (ad 0), .int z].toArray wsX7_leastWidth RX7 := cx
  have hl : lv_has ls 3 [(0, .ref (ad 0)), (1, .int z)] := hl
  have hn20 := hok.n20
  refine lv_iload_n cx.1 cx.2.1 dX7_leastWidth_0 rfl (lv_at hl 1 rfl) ?_
  refine lv_iconst (v := nI 1) cx.1 cx.2.1 dX7_leastWidth_1 (by decide) ?_
  refine lv_bipush (v := nI 40) cx.1 cx.2.1 dX7_leastWidth_2 (by decide) ?_
  refine RO.callS (As := [.int z, .int 1, .int 40]) (rest := []) cx (c_X7_in l G z 1 40) gX7_leastWidth_X7_in rfl hd_X7_in ⟨Nat.le_of_ble_eq_true rfl, Nat.le_of_ble_eq_true rfl⟩ hK hN va_P.nil rfl hl.1 rfl (Nat.le_of_ble_eq_true rfl) dX7_leastWidth_4 ⟨Nat.zero_le _, Nat.zero_le _⟩ ?_
  refine nv_ifnz (b := inR z 1 40) (tgt := 14) cx dX7_leastWidth_7 (by decide) (fun c_1 => ?_) (fun c_1 => ?_)
  · refine lv_aload_n cx.1 cx.2.1 dX7_leastWidth_14 rfl (lv_at hl 0 rfl) ?_
    refine va_get (ci := 6) (C := RX7) (T := TX7) (N := 7) (v := .ref (ad 1)) cx.1 cx.2.1 cx.2.2.2.2 iw_X7_leastWidth_X7 cx.2.2.2.1 hK hP 0 rfl rfl 0 (by decide) (cx.2.2.2.2 _ fw_X7_leastWidth_f7) (fun _ h9 => h9) rfl dX7_leastWidth_15 ?_
    refine lv_iconst (v := nI 4) cx.1 cx.2.1 dX7_leastWidth_18 (by decide) ?_
    refine nv_iald (j := 4) cx hK hP 1 1 rfl rfl (by omega) (by decide) dX7_leastWidth_19 ?_
    refine nv_eqi (y := nI (mn (M 0))) hok.n ?_
    refine nv_if_ne (a := mn (M 0)) (tgt := 27) cx dX7_leastWidth_20 (by decide) (by omega) (fun c_2 => ?_) (fun c_2 => ?_)
    · refine lv_aload_n cx.1 cx.2.1 dX7_leastWidth_27 rfl (lv_at hl 0 rfl) ?_
      refine lv_sipush (v := (-1005)) cx.1 cx.2.1 dX7_leastWidth_28 (by decide) ?_
      refine RO.callV (As := [.int (-1005)]) (rest := []) cx (c_X7_mostUnits l G ad M (-1005) hok) gX7_leastWidth_X7_mostUnits rfl hd_X7_mostUnits ⟨Nat.le_of_ble_eq_true rfl, Nat.le_of_ble_eq_true rfl⟩ (va_recv hK hP (ci := 6) (q0 := 0) rfl rfl) hK hN hP rfl hl.1 rfl (Nat.le_of_ble_eq_true rfl) dX7_leastWidth_31 ⟨Nat.zero_le _, Nat.zero_le _⟩ ?_
      refine lv_iload_n cx.1 cx.2.1 dX7_leastWidth_34 rfl (lv_at hl 1 rfl) ?_
      refine lv_imul (x := mMost (M 0) (-1005)) (y := z) cx.1 cx.2.1 dX7_leastWidth_35 ?_
      refine lv_aload_n cx.1 cx.2.1 dX7_leastWidth_36 rfl (lv_at hl 0 rfl) ?_
      refine va_get (ci := 6) (C := RX7) (T := TX7) (N := 7) (v := .ref (ad 1)) cx.1 cx.2.1 cx.2.2.2.2 iw_X7_leastWidth_X7 cx.2.2.2.1 hK hP 0 rfl rfl 0 (by decide) (cx.2.2.2.2 _ fw_X7_leastWidth_f7) (fun _ h9 => h9) rfl dX7_leastWidth_37 ?_
      refine lv_iconst (v := nI 3) cx.1 cx.2.1 dX7_leastWidth_40 (by decide) ?_
      refine nv_iald (j := 3) cx hK hP 1 1 rfl rfl (by omega) (by decide) dX7_leastWidth_41 ?_
      refine lv_imul (x := (mMost (M 0) (-1005)) * z) (y := M 0 3) cx.1 cx.2.1 dX7_leastWidth_42 ?_
      refine lv_iconst (v := nI 2) cx.1 cx.2.1 dX7_leastWidth_43 (by decide) ?_
      refine lv_aload_n cx.1 cx.2.1 dX7_leastWidth_44 rfl (lv_at hl 0 rfl) ?_
      refine va_get (ci := 6) (C := RX7) (T := TX7) (N := 7) (v := .ref (ad 1)) cx.1 cx.2.1 cx.2.2.2.2 iw_X7_leastWidth_X7 cx.2.2.2.1 hK hP 0 rfl rfl 0 (by decide) (cx.2.2.2.2 _ fw_X7_leastWidth_f7) (fun _ h9 => h9) rfl dX7_leastWidth_45 ?_
      refine lv_iconst (v := nI 2) cx.1 cx.2.1 dX7_leastWidth_48 (by decide) ?_
      refine nv_iald (j := 2) cx hK hP 1 1 rfl rfl (by omega) (by decide) dX7_leastWidth_49 ?_
      refine lv_imul (x := 2) (y := M 0 2) cx.1 cx.2.1 dX7_leastWidth_50 ?_
      refine lv_iadd (x := ((mMost (M 0) (-1005)) * z) * (M 0 3)) (y := 2 * (M 0 2)) cx.1 cx.2.1 dX7_leastWidth_51 ?_
      refine lv_istore_n (lv' := [(2, .int ((((mMost (M 0) (-1005)) * z) * (M 0 3)) + (2 * (M 0 2)))), (0, .ref (ad 0)), (1, .int z)]) cx.1 cx.2.1 dX7_leastWidth_52 rfl hl (by decide) rfl (fun ls hl => ?_)
      refine lv_iload_n cx.1 cx.2.1 dX7_leastWidth_53 rfl (lv_at hl 0 rfl) ?_
      refine lv_sipush (v := nI 300) cx.1 cx.2.1 dX7_leastWidth_54 (by decide) ?_
      refine lv_icmp_ge (x := (((mMost (M 0) (-1005)) * z) * (M 0 3)) + (2 * (M 0 2))) (y := 300) (tgt := 66) cx.1 cx.2.1 dX7_leastWidth_57 (by decide) (fun c_3 => ?_) (fun c_3 => ?_)
      · refine lv_iload_n cx.1 cx.2.1 dX7_leastWidth_66 rfl (lv_at hl 0 rfl) ?_
        exact RO.ret (x := (((mMost (M 0) (-1005)) * z) * (M 0 3)) + (2 * (M 0 2))) cx hr hlocks dX7_leastWidth_67 (by simp [mLeast, mLeastK, c_1, c_2, c_3])
      · refine lv_sipush (v := nI 300) cx.1 cx.2.1 dX7_leastWidth_60 (by decide) ?_
        refine lv_goto (tgt := 67) cx.1 cx.2.1 dX7_leastWidth_63 (by decide) ?_
        exact RO.ret (x := 300) cx hr hlocks dX7_leastWidth_67 (by simp [mLeast, mLeastK, c_1, c_2, c_3])
    · refine lv_sipush (v := (-1005)) cx.1 cx.2.1 dX7_leastWidth_23 (by decide) ?_
      exact RO.ret (x := (-1005)) cx hr hlocks dX7_leastWidth_26 (by simp [mLeast, mLeastK, c_1, c_2])
  · refine lv_sipush (v := (-1002)) cx.1 cx.2.1 dX7_leastWidth_10 (by decide) ?_
    exact RO.ret (x := (-1002)) cx hr hlocks dX7_leastWidth_13 (by simp [mLeast, mLeastK, c_1])

theorem iw_X7_longest_X7 : ∀ w ∈ wsX70, w ∈ wsX7_longest := fun _ h => List.mem_cons_of_mem _ (List.mem_append_right _ h)
theorem fw_X7_longest_f7 : (Cond.fieldLink RX7 7 "NamePlateModel" "now" "[I") ∈ wsX7_longest := List.mem_of_getElem? (i := 1) rfl
set_option maxHeartbeats 4000000 in
set_option maxRecDepth 100000 in
theorem c_X7_longest (l : Launch) (G : GG) (ad : Nat → Nat) (M : XS)  (hok : okM (M 0)) : RO l yX7_longest wsX7_longest 6 131 G (mdC G ad M) [.ref (ad 0)] (mBestI (M 0) (mn (M 0))) := by
  refine RO.start (cc := cX7_longest) (maxL := 3) (ret := (some .int)) (by decide) rfl (Nat.le_of_ble_eq_true rfl) ?_
  intro p e s m below meth c ls cx hr hlocks hK hN hP hl
  have cx : CallFix p m c cX7_longest 3 s [.ref (ad 0)].toArray wsX7_longest RX7 := cx
  have hl : lv_has ls 3 [(0, .ref (ad 0))] := hl
  have hn20 := hok.n20
  refine lv_sipush (v := (-1005)) cx.1 cx.2.1 dX7_longest_0 (by decide) ?_
  refine lv_istore_n (lv' := [(1, .int (-1005)), (0, .ref (ad 0))]) cx.1 cx.2.1 dX7_longest_3 rfl hl (by decide) rfl (fun ls hl => ?_)
  refine lv_iconst (v := nI 0) cx.1 cx.2.1 dX7_longest_4 (by decide) ?_
  refine lv_istore_n (lv' := [(2, .int (nI 0)), (1, .int (-1005)), (0, .ref (ad 0))]) cx.1 cx.2.1 dX7_longest_5 rfl hl (by decide) rfl (fun ls hl => ?_)
  have lp6 : ∀ (r : Nat) (i : Nat) (hr9 : mn (M 0) - i < r) (hi : i ≤ mn (M 0)) (ls : Array Slot), lv_has ls 3 [(0, .ref (ad 0)), (1, .int (mBestI (M 0) i)), (2, .int (nI i))] → W p l e ({ frames := 6, cells := 0, slots := 0, locals := 131 } : Room) s m [.ref (ad 0)].toArray below meth c s.heap [] 0 0 (MQ below (vp_Si (fun r => r = (mBestI (M 0) (mn (M 0))))) [.ref (ad 0)].toArray s 0 0 (fun _ => False)) (F0 m 6 ls []) := by
    intro r
    induction r with
    | zero => intro i hr9; exact absurd hr9 (Nat.not_lt_zero _)
    | succ r ih6 =>
      intro i hr9 hi ls hl
      refine lv_iload_n cx.1 cx.2.1 dX7_longest_6 rfl (lv_at hl 2 rfl) ?_
      refine lv_aload_n cx.1 cx.2.1 dX7_longest_7 rfl (lv_at hl 0 rfl) ?_
      refine va_get (ci := 6) (C := RX7) (T := TX7) (N := 7) (v := .ref (ad 1)) cx.1 cx.2.1 cx.2.2.2.2 iw_X7_longest_X7 cx.2.2.2.1 hK hP 0 rfl rfl 0 (by decide) (cx.2.2.2.2 _ fw_X7_longest_f7) (fun _ h9 => h9) rfl dX7_longest_8 ?_
      refine lv_iconst (v := nI 4) cx.1 cx.2.1 dX7_longest_11 (by decide) ?_
      refine nv_iald (j := 4) cx hK hP 1 1 rfl rfl (by omega) (by decide) dX7_longest_12 ?_
      refine nv_eqi (y := nI (mn (M 0))) hok.n ?_
      refine nv_icmp_ge (a := i) (b := mn (M 0)) (tgt := 48) cx dX7_longest_13 (by decide) (by omega) (by omega) (fun c_1 => ?_) (fun c_1 => ?_)
      · refine lv_iload_n cx.1 cx.2.1 dX7_longest_48 rfl (lv_at hl 1 rfl) ?_
        exact RO.ret (x := mBestI (M 0) i) cx hr hlocks dX7_longest_49 (by have e : i = mn (M 0) := (by omega); rw [e])
      · refine lv_iload_n cx.1 cx.2.1 dX7_longest_16 rfl (lv_at hl 1 rfl) ?_
        rcases Nat.eq_zero_or_pos i with hz | hz
        · refine nv_eqi (y := (-1005)) (if_pos hz) ?_
          refine lv_sipush (v := (-1005)) cx.1 cx.2.1 dX7_longest_17 (by decide) ?_
          refine lv_icmp_eq (x := (-1005)) (y := (-1005)) (tgt := 36) cx.1 cx.2.1 dX7_longest_20 (by decide) (fun c_2 => ?_) (fun c_2 => ?_)
          · refine lv_iload_n cx.1 cx.2.1 dX7_longest_36 rfl (lv_at hl 2 rfl) ?_
            refine lv_goto (tgt := 41) cx.1 cx.2.1 dX7_longest_37 (by decide) ?_
            refine lv_istore_n (lv' := [(1, .int (nI i)), (0, .ref (ad 0)), (2, .int (nI i))]) cx.1 cx.2.1 dX7_longest_41 rfl hl (by decide) rfl (fun ls hl => ?_)
            refine lv_iinc (v := nI (i + 1)) (lv' := [(2, .int (nI (i + 1))), (1, .int (nI i)), (0, .ref (ad 0))]) cx.1 cx.2.1 dX7_longest_42 hl (k := 2) rfl (show nI i + Int32.ofInt 1 = nI (i + 1) from nI_add i 1) (by decide) rfl (fun ls hl => ?_)
            refine lv_goto (tgt := 6) cx.1 cx.2.1 dX7_longest_45 (by decide) ?_
            have e1 : mBestI (M 0) (i + 1) = nI i := by simp [mBestI, mB, c_1, hz, c_2]
            exact ih6 (i + 1) (by omega) (by omega) ls (lv_sub hl [2, 1, 0] (by rw [e1]; rfl))
          · exact absurd rfl c_2
        · have hz2 : ¬ i = 0 := by omega
          have hB := mB_lt (M 0) hz2
          refine nv_eqi (y := nI (mB (M 0) i)) (if_neg hz2) ?_
          refine lv_sipush (v := (-1005)) cx.1 cx.2.1 dX7_longest_17 (by decide) ?_
          refine lv_icmp_eq (x := nI (mB (M 0) i)) (y := (-1005)) (tgt := 36) cx.1 cx.2.1 dX7_longest_20 (by decide) (fun c_3 => ?_) (fun c_3 => ?_)
          · exact absurd c_3 (nI_m1005 (by omega))
          · refine lv_aload_n cx.1 cx.2.1 dX7_longest_23 rfl (lv_at hl 0 rfl) ?_
            refine lv_iload_n cx.1 cx.2.1 dX7_longest_24 rfl (lv_at hl 2 rfl) ?_
            refine RO.callV (As := [.int (nI i)]) (rest := []) cx (c_X7_units l G ad M i hok (by omega)) gX7_longest_X7_units rfl hd_X7_units ⟨Nat.le_of_ble_eq_true rfl, Nat.le_of_ble_eq_true rfl⟩ (va_recv hK hP (ci := 6) (q0 := 0) rfl rfl) hK hN hP rfl hl.1 rfl (Nat.le_of_ble_eq_true rfl) dX7_longest_25 ⟨Nat.zero_le _, Nat.zero_le _⟩ ?_
            refine lv_aload_n cx.1 cx.2.1 dX7_longest_28 rfl (lv_at hl 0 rfl) ?_
            refine lv_iload_n cx.1 cx.2.1 dX7_longest_29 rfl (lv_at hl 1 rfl) ?_
            refine nv_eqi (y := nI (mB (M 0) i)) (if_neg hz2) ?_
            refine RO.callV (As := [.int (nI (mB (M 0) i))]) (rest := [.int (mU (M 0) i)]) cx (c_X7_units l G ad M (mB (M 0) i) hok (by omega)) gX7_longest_X7_units rfl hd_X7_units ⟨Nat.le_of_ble_eq_true rfl, Nat.le_of_ble_eq_true rfl⟩ (va_recv hK hP (ci := 6) (q0 := 0) rfl rfl) hK hN hP rfl hl.1 rfl (Nat.le_of_ble_eq_true rfl) dX7_longest_30 ⟨Nat.zero_le _, Nat.zero_le _⟩ ?_
            refine lv_icmp_le (x := mU (M 0) i) (y := mU (M 0) (mB (M 0) i)) (tgt := 40) cx.1 cx.2.1 dX7_longest_33 (by decide) (fun c_4 => ?_) (fun c_4 => ?_)
            · refine lv_iload_n cx.1 cx.2.1 dX7_longest_40 rfl (lv_at hl 1 rfl) ?_
              refine lv_istore_n (lv' := [(1, .int (mBestI (M 0) i)), (0, .ref (ad 0)), (2, .int (nI i))]) cx.1 cx.2.1 dX7_longest_41 rfl hl (by decide) rfl (fun ls hl => ?_)
              refine lv_iinc (v := nI (i + 1)) (lv' := [(2, .int (nI (i + 1))), (1, .int (mBestI (M 0) i)), (0, .ref (ad 0))]) cx.1 cx.2.1 dX7_longest_42 hl (k := 2) rfl (show nI i + Int32.ofInt 1 = nI (i + 1) from nI_add i 1) (by decide) rfl (fun ls hl => ?_)
              refine lv_goto (tgt := 6) cx.1 cx.2.1 dX7_longest_45 (by decide) ?_
              have e1 : mBestI (M 0) (i + 1) = mBestI (M 0) i := by simp [mBestI, mB, c_1, hz2, c_3, c_4]
              exact ih6 (i + 1) (by omega) (by omega) ls (lv_sub hl [2, 1, 0] (by rw [e1]; rfl))
            · refine lv_iload_n cx.1 cx.2.1 dX7_longest_36 rfl (lv_at hl 2 rfl) ?_
              refine lv_goto (tgt := 41) cx.1 cx.2.1 dX7_longest_37 (by decide) ?_
              refine lv_istore_n (lv' := [(1, .int (nI i)), (0, .ref (ad 0)), (2, .int (nI i))]) cx.1 cx.2.1 dX7_longest_41 rfl hl (by decide) rfl (fun ls hl => ?_)
              refine lv_iinc (v := nI (i + 1)) (lv' := [(2, .int (nI (i + 1))), (1, .int (nI i)), (0, .ref (ad 0))]) cx.1 cx.2.1 dX7_longest_42 hl (k := 2) rfl (show nI i + Int32.ofInt 1 = nI (i + 1) from nI_add i 1) (by decide) rfl (fun ls hl => ?_)
              refine lv_goto (tgt := 6) cx.1 cx.2.1 dX7_longest_45 (by decide) ?_
              have e1 : mBestI (M 0) (i + 1) = nI i := by simp [mBestI, mB, c_1, hz2, c_3, c_4]
              exact ih6 (i + 1) (by omega) (by omega) ls (lv_sub hl [2, 1, 0] (by rw [e1]; rfl))
  exact lp6 _ 0 (Nat.lt_succ_self _) (by omega) ls (lv_sub hl [2, 1, 0] rfl)

set_option maxHeartbeats 4000000 in
set_option maxRecDepth 100000 in
theorem c_X7_adjustment (l : Launch) (G : GG) (ad : Nat → Nat) (M : XS) (a : Int32) (b : Int32) (hok : okM (M 0)) : RO l yX7_adjustment wsX7_adjustment 3 63 G (mdC G ad M) [.ref (ad 0), .int a, .int b] (if (mOk a && mOk b) = true then mAdj (M 0) a b else (-1001)) := by
  refine RO.start (cc := cX7_adjustment) (maxL := 3) (ret := (some .int)) (by decide) rfl (Nat.le_of_ble_eq_true rfl) ?_
  intro p e s m below meth c ls cx hr hlocks hK hN hP hl
  have cx : CallFix p m c cX7_adjustment 3 s [.ref (ad 0), .int a, .int b].toArray wsX7_adjustment RX7 := cx
  have hl : lv_has ls 3 [(0, .ref (ad 0)), (1, .int a), (2, .int b)] := hl
  refine lv_iload_n cx.1 cx.2.1 dX7_adjustment_0 rfl (lv_at hl 1 rfl) ?_
  refine lv_iload_n cx.1 cx.2.1 dX7_adjustment_1 rfl (lv_at hl 2 rfl) ?_
  refine RO.callS (As := [.int a, .int b]) (rest := []) cx (c_X7_areSigns l G a b) gX7_adjustment_X7_areSigns rfl hd_X7_areSigns ⟨Nat.le_of_ble_eq_true rfl, Nat.le_of_ble_eq_true rfl⟩ hK hN va_P.nil rfl hl.1 rfl (Nat.le_of_ble_eq_true rfl) dX7_adjustment_2 ⟨Nat.zero_le _, Nat.zero_le _⟩ ?_
  refine nv_ifz (b := (mOk a && mOk b)) (tgt := 17) cx dX7_adjustment_5 (by decide) (fun c_1 => ?_) (fun c_1 => ?_)
  · refine lv_sipush (v := (-1001)) cx.1 cx.2.1 dX7_adjustment_17 (by decide) ?_
    exact RO.ret (x := (-1001)) cx hr hlocks dX7_adjustment_20 (by simp [c_1])
  · refine lv_aload_n cx.1 cx.2.1 dX7_adjustment_8 rfl (lv_at hl 0 rfl) ?_
    refine lv_iload_n cx.1 cx.2.1 dX7_adjustment_9 rfl (lv_at hl 1 rfl) ?_
    refine lv_iload_n cx.1 cx.2.1 dX7_adjustment_10 rfl (lv_at hl 2 rfl) ?_
    refine RO.callV (As := [.int a, .int b]) (rest := []) cx (c_X7_adjusted l G ad M a b hok) gX7_adjustment_X7_adjusted rfl hd_X7_adjusted ⟨Nat.le_of_ble_eq_true rfl, Nat.le_of_ble_eq_true rfl⟩ (va_recv hK hP (ci := 6) (q0 := 0) rfl rfl) hK hN hP rfl hl.1 rfl (Nat.le_of_ble_eq_true rfl) dX7_adjustment_11 ⟨Nat.zero_le _, Nat.zero_le _⟩ ?_
    refine lv_goto (tgt := 20) cx.1 cx.2.1 dX7_adjustment_14 (by decide) ?_
    exact RO.ret (x := mAdj (M 0) a b) cx hr hlocks dX7_adjustment_20 (by simp [c_1])

theorem iw_X7_pair_X7 : ∀ w ∈ wsX70, w ∈ wsX7_pair := fun _ h => List.mem_cons_of_mem _ (List.mem_append_right _ h)
theorem fw_X7_pair_f7 : (Cond.fieldLink RX7 7 "NamePlateModel" "now" "[I") ∈ wsX7_pair := List.mem_of_getElem? (i := 1) rfl
set_option maxHeartbeats 4000000 in
set_option maxRecDepth 100000 in
theorem c_X7_pair (l : Launch) (G : GG) (ad : Nat → Nat) (M : XS) (place : Int32) (what : Int32) (hok : okM (M 0)) : RO l yX7_pair wsX7_pair 1 22 G (mdC G ad M) [.ref (ad 0), .int place, .int what] (mPair (M 0) place what) := by
  refine RO.start (cc := cX7_pair) (maxL := 3) (ret := (some .int)) (by decide) rfl (Nat.le_of_ble_eq_true rfl) ?_
  intro p e s m below meth c ls cx hr hlocks hK hN hP hl
  have cx : CallFix p m c cX7_pair 3 s [.ref (ad 0), .int place, .int what].toArray wsX7_pair RX7 := cx
  have hl : lv_has ls 3 [(0, .ref (ad 0)), (1, .int place), (2, .int what)] := hl
  have hp16 := hok.p16
  refine lv_iload_n cx.1 cx.2.1 dX7_pair_0 rfl (lv_at hl 1 rfl) ?_
  refine lv_if_lt (x := place) (tgt := 13) cx.1 cx.2.1 dX7_pair_1 (by decide) (fun c_1 => ?_) (fun c_1 => ?_)
  · refine lv_sipush (v := (-1002)) cx.1 cx.2.1 dX7_pair_13 (by decide) ?_
    exact RO.ret (x := (-1002)) cx hr hlocks dX7_pair_16 (by first | (simp [mPair, c_1]; done) | simp [mPair, nI_pos hq31, c_1])
  · obtain ⟨q, hq31, rfl⟩ := nI_of c_1
    refine lv_iload_n cx.1 cx.2.1 dX7_pair_4 rfl (lv_at hl 2 rfl) ?_
    refine lv_iconst (v := nI 0) cx.1 cx.2.1 dX7_pair_5 (by decide) ?_
    refine lv_iconst (v := nI 2) cx.1 cx.2.1 dX7_pair_6 (by decide) ?_
    refine RO.callS (As := [.int what, .int 0, .int 2]) (rest := []) cx (c_X7_in l G what 0 2) gX7_pair_X7_in rfl hd_X7_in ⟨Nat.le_of_ble_eq_true rfl, Nat.le_of_ble_eq_true rfl⟩ hK hN va_P.nil rfl hl.1 rfl (Nat.le_of_ble_eq_true rfl) dX7_pair_7 ⟨Nat.zero_le _, Nat.zero_le _⟩ ?_
    refine nv_ifnz (b := inR what 0 2) (tgt := 17) cx dX7_pair_10 (by decide) (fun c_2 => ?_) (fun c_2 => ?_)
    · obtain ⟨w, hw, rfl⟩ := inR_of (b := 2) (by omega) c_2
      refine lv_iload_n cx.1 cx.2.1 dX7_pair_17 rfl (lv_at hl 1 rfl) ?_
      refine lv_aload_n cx.1 cx.2.1 dX7_pair_18 rfl (lv_at hl 0 rfl) ?_
      refine va_get (ci := 6) (C := RX7) (T := TX7) (N := 7) (v := .ref (ad 1)) cx.1 cx.2.1 cx.2.2.2.2 iw_X7_pair_X7 cx.2.2.2.1 hK hP 0 rfl rfl 0 (by decide) (cx.2.2.2.2 _ fw_X7_pair_f7) (fun _ h9 => h9) rfl dX7_pair_19 ?_
      refine lv_bipush (v := nI 8) cx.1 cx.2.1 dX7_pair_22 (by decide) ?_
      refine nv_iald (j := 8) cx hK hP 1 1 rfl rfl (by omega) (by decide) dX7_pair_24 ?_
      refine nv_eqi (y := nI (mp (M 0))) hok.p ?_
      refine nv_icmp_ge (a := q) (b := mp (M 0)) (tgt := 44) cx dX7_pair_25 (by decide) (by omega) (by omega) (fun c_3 => ?_) (fun c_3 => ?_)
      · refine lv_sipush (v := (-1005)) cx.1 cx.2.1 dX7_pair_44 (by decide) ?_
        exact RO.ret (x := (-1005)) cx hr hlocks dX7_pair_47 (by first | (simp [mPair, nI_pos hq31, nI_clamp hq31, nI_clamp (show w < 2147483648 by omega), nI_ltI hq31 (show mp (M 0) < 2147483648 by omega), c_1, c_2, c_3]; done) | simp [mPair, nI_pos hq31, nI_clamp hq31, nI_ltI hq31 (show mp (M 0) < 2147483648 by omega), Nat.not_lt.mpr c_3, show inR (nI w) 0 2 = true from c_2, c_1, c_2, c_3])
      · refine lv_aload_n cx.1 cx.2.1 dX7_pair_28 rfl (lv_at hl 0 rfl) ?_
        refine va_get (ci := 6) (C := RX7) (T := TX7) (N := 7) (v := .ref (ad 1)) cx.1 cx.2.1 cx.2.2.2.2 iw_X7_pair_X7 cx.2.2.2.1 hK hP 0 rfl rfl 0 (by decide) (cx.2.2.2.2 _ fw_X7_pair_f7) (fun _ h9 => h9) rfl dX7_pair_29 ?_
        refine lv_bipush (v := nI 9) cx.1 cx.2.1 dX7_pair_32 (by decide) ?_
        refine lv_iconst (v := nI 3) cx.1 cx.2.1 dX7_pair_34 (by decide) ?_
        refine lv_iload_n cx.1 cx.2.1 dX7_pair_35 rfl (lv_at hl 1 rfl) ?_
        refine nv_imul cx (a := 3) (b := q) dX7_pair_36 ?_
        refine nv_iadd cx (a := 9) (b := 3 * q) dX7_pair_37 ?_
        refine lv_iload_n cx.1 cx.2.1 dX7_pair_38 rfl (lv_at hl 2 rfl) ?_
        refine nv_iadd cx (a := 9 + (3 * q)) (b := w) dX7_pair_39 ?_
        refine nv_iald (j := 9 + (3 * q) + w) cx hK hP 1 1 rfl rfl (by omega) (by decide) dX7_pair_40 ?_
        refine lv_goto (tgt := 47) cx.1 cx.2.1 dX7_pair_41 (by decide) ?_
        exact RO.ret (x := M 0 (9 + (3 * q) + w)) cx hr hlocks dX7_pair_47 (by first | (simp [mPair, nI_pos hq31, nI_clamp hq31, nI_clamp (show w < 2147483648 by omega), nI_ltI hq31 (show mp (M 0) < 2147483648 by omega), c_1, c_2, c_3]; done) | simp [mPair, nI_pos hq31, nI_clamp hq31, nI_ltI hq31 (show mp (M 0) < 2147483648 by omega), Nat.not_lt.mpr c_3, show inR (nI w) 0 2 = true from c_2, c_1, c_2, c_3])
    · refine lv_sipush (v := (-1002)) cx.1 cx.2.1 dX7_pair_13 (by decide) ?_
      exact RO.ret (x := (-1002)) cx hr hlocks dX7_pair_16 (by first | (simp [mPair, c_1, c_2]; done) | simp [mPair, nI_pos hq31, c_1, c_2])

theorem iw_X7_count_X7 : ∀ w ∈ wsX70, w ∈ wsX7_count := fun _ h => List.mem_cons_of_mem _ (List.mem_append_right _ h)
theorem fw_X7_count_f7 : (Cond.fieldLink RX7 7 "NamePlateModel" "now" "[I") ∈ wsX7_count := List.mem_of_getElem? (i := 1) rfl
theorem fw_X7_count_f23 : (Cond.fieldLink RX7 23 "NamePlateModel" "kept" "I") ∈ wsX7_count := List.mem_of_getElem? (i := 2) rfl
theorem fw_X7_count_f122 : (Cond.fieldLink RX7 122 "NamePlateModel" "typed" "I") ∈ wsX7_count := List.mem_of_getElem? (i := 3) rfl
set_option maxHeartbeats 4000000 in
set_option maxRecDepth 100000 in
theorem c_X7_count (l : Launch) (G : GG) (ad : Nat → Nat) (M : XS) (what : Int32) (hok : okM (M 0)) : RO l yX7_count wsX7_count 2 44 G (mdC G ad M) [.ref (ad 0), .int what] (mCount M what) := by
  refine RO.start (cc := cX7_count) (maxL := 2) (ret := (some .int)) (by decide) rfl (Nat.le_of_ble_eq_true rfl) ?_
  intro p e s m below meth c ls cx hr hlocks hK hN hP hl
  have cx : CallFix p m c cX7_count 2 s [.ref (ad 0), .int what].toArray wsX7_count RX7 := cx
  have hl : lv_has ls 2 [(0, .ref (ad 0)), (1, .int what)] := hl
  refine lv_iload_n cx.1 cx.2.1 dX7_count_0 rfl (lv_at hl 1 rfl) ?_
  by_cases w_1 : what = 0
  · refine lv_tableIn (tgt := 64) (off := 63) cx.1 cx.2.1 dX7_count_1 (by rw [w_1]; decide) (by rw [w_1]; decide) (by rw [w_1]; decide) (by decide) ?_
    refine lv_aload_n cx.1 cx.2.1 dX7_count_64 rfl (lv_at hl 0 rfl) ?_
    refine va_get (ci := 6) (C := RX7) (T := TX7) (N := 7) (v := .ref (ad 1)) cx.1 cx.2.1 cx.2.2.2.2 iw_X7_count_X7 cx.2.2.2.1 hK hP 0 rfl rfl 0 (by decide) (cx.2.2.2.2 _ fw_X7_count_f7) (fun _ h9 => h9) rfl dX7_count_65 ?_
    refine lv_iload_n cx.1 cx.2.1 dX7_count_68 rfl (lv_at hl 1 rfl) ?_
    refine nv_eqi (y := nI 0) w_1 ?_
    refine nv_iald (j := 0) cx hK hP 1 1 rfl rfl (by omega) (by decide) dX7_count_69 ?_
    exact RO.ret (x := M 0 0) cx hr hlocks dX7_count_70 (by simp [mCount, w_1])
  by_cases w_2 : what = 1
  · refine lv_tableIn (tgt := 64) (off := 63) cx.1 cx.2.1 dX7_count_1 (by rw [w_2]; decide) (by rw [w_2]; decide) (by rw [w_2]; decide) (by decide) ?_
    refine lv_aload_n cx.1 cx.2.1 dX7_count_64 rfl (lv_at hl 0 rfl) ?_
    refine va_get (ci := 6) (C := RX7) (T := TX7) (N := 7) (v := .ref (ad 1)) cx.1 cx.2.1 cx.2.2.2.2 iw_X7_count_X7 cx.2.2.2.1 hK hP 0 rfl rfl 0 (by decide) (cx.2.2.2.2 _ fw_X7_count_f7) (fun _ h9 => h9) rfl dX7_count_65 ?_
    refine lv_iload_n cx.1 cx.2.1 dX7_count_68 rfl (lv_at hl 1 rfl) ?_
    refine nv_eqi (y := nI 1) w_2 ?_
    refine nv_iald (j := 1) cx hK hP 1 1 rfl rfl (by omega) (by decide) dX7_count_69 ?_
    exact RO.ret (x := M 0 1) cx hr hlocks dX7_count_70 (by simp [mCount, w_2])
  by_cases w_3 : what = 2
  · refine lv_tableIn (tgt := 64) (off := 63) cx.1 cx.2.1 dX7_count_1 (by rw [w_3]; decide) (by rw [w_3]; decide) (by rw [w_3]; decide) (by decide) ?_
    refine lv_aload_n cx.1 cx.2.1 dX7_count_64 rfl (lv_at hl 0 rfl) ?_
    refine va_get (ci := 6) (C := RX7) (T := TX7) (N := 7) (v := .ref (ad 1)) cx.1 cx.2.1 cx.2.2.2.2 iw_X7_count_X7 cx.2.2.2.1 hK hP 0 rfl rfl 0 (by decide) (cx.2.2.2.2 _ fw_X7_count_f7) (fun _ h9 => h9) rfl dX7_count_65 ?_
    refine lv_iload_n cx.1 cx.2.1 dX7_count_68 rfl (lv_at hl 1 rfl) ?_
    refine nv_eqi (y := nI 2) w_3 ?_
    refine nv_iald (j := 2) cx hK hP 1 1 rfl rfl (by omega) (by decide) dX7_count_69 ?_
    exact RO.ret (x := M 0 2) cx hr hlocks dX7_count_70 (by simp [mCount, w_3])
  by_cases w_4 : what = 3
  · refine lv_tableIn (tgt := 64) (off := 63) cx.1 cx.2.1 dX7_count_1 (by rw [w_4]; decide) (by rw [w_4]; decide) (by rw [w_4]; decide) (by decide) ?_
    refine lv_aload_n cx.1 cx.2.1 dX7_count_64 rfl (lv_at hl 0 rfl) ?_
    refine va_get (ci := 6) (C := RX7) (T := TX7) (N := 7) (v := .ref (ad 1)) cx.1 cx.2.1 cx.2.2.2.2 iw_X7_count_X7 cx.2.2.2.1 hK hP 0 rfl rfl 0 (by decide) (cx.2.2.2.2 _ fw_X7_count_f7) (fun _ h9 => h9) rfl dX7_count_65 ?_
    refine lv_iload_n cx.1 cx.2.1 dX7_count_68 rfl (lv_at hl 1 rfl) ?_
    refine nv_eqi (y := nI 3) w_4 ?_
    refine nv_iald (j := 3) cx hK hP 1 1 rfl rfl (by omega) (by decide) dX7_count_69 ?_
    exact RO.ret (x := M 0 3) cx hr hlocks dX7_count_70 (by simp [mCount, w_4])
  by_cases w_5 : what = 4
  · refine lv_tableIn (tgt := 64) (off := 63) cx.1 cx.2.1 dX7_count_1 (by rw [w_5]; decide) (by rw [w_5]; decide) (by rw [w_5]; decide) (by decide) ?_
    refine lv_aload_n cx.1 cx.2.1 dX7_count_64 rfl (lv_at hl 0 rfl) ?_
    refine va_get (ci := 6) (C := RX7) (T := TX7) (N := 7) (v := .ref (ad 1)) cx.1 cx.2.1 cx.2.2.2.2 iw_X7_count_X7 cx.2.2.2.1 hK hP 0 rfl rfl 0 (by decide) (cx.2.2.2.2 _ fw_X7_count_f7) (fun _ h9 => h9) rfl dX7_count_65 ?_
    refine lv_iload_n cx.1 cx.2.1 dX7_count_68 rfl (lv_at hl 1 rfl) ?_
    refine nv_eqi (y := nI 4) w_5 ?_
    refine nv_iald (j := 4) cx hK hP 1 1 rfl rfl (by omega) (by decide) dX7_count_69 ?_
    exact RO.ret (x := M 0 4) cx hr hlocks dX7_count_70 (by simp [mCount, w_5])
  by_cases w_6 : what = 5
  · refine lv_tableIn (tgt := 71) (off := 70) cx.1 cx.2.1 dX7_count_1 (by rw [w_6]; decide) (by rw [w_6]; decide) (by rw [w_6]; decide) (by decide) ?_
    refine lv_aload_n cx.1 cx.2.1 dX7_count_71 rfl (lv_at hl 0 rfl) ?_
    refine RO.callV (As := []) (rest := []) cx (c_X7_engraved l G ad M hok) gX7_count_X7_engraved rfl hd_X7_engraved ⟨Nat.le_of_ble_eq_true rfl, Nat.le_of_ble_eq_true rfl⟩ (va_recv hK hP (ci := 6) (q0 := 0) rfl rfl) hK hN hP rfl hl.1 rfl (Nat.le_of_ble_eq_true rfl) dX7_count_72 ⟨Nat.zero_le _, Nat.zero_le _⟩ ?_
    exact RO.ret (x := mEs (M 0)) cx hr hlocks dX7_count_75 (by simp [mCount, w_6])
  by_cases w_7 : what = 6
  · refine lv_tableIn (tgt := 76) (off := 75) cx.1 cx.2.1 dX7_count_1 (by rw [w_7]; decide) (by rw [w_7]; decide) (by rw [w_7]; decide) (by decide) ?_
    refine lv_aload_n cx.1 cx.2.1 dX7_count_76 rfl (lv_at hl 0 rfl) ?_
    refine lv_aload_n cx.1 cx.2.1 dX7_count_77 rfl (lv_at hl 0 rfl) ?_
    refine va_get (ci := 6) (C := RX7) (T := TX7) (N := 7) (v := .ref (ad 1)) cx.1 cx.2.1 cx.2.2.2.2 iw_X7_count_X7 cx.2.2.2.1 hK hP 0 rfl rfl 0 (by decide) (cx.2.2.2.2 _ fw_X7_count_f7) (fun _ h9 => h9) rfl dX7_count_78 ?_
    refine lv_iconst (v := nI 4) cx.1 cx.2.1 dX7_count_81 (by decide) ?_
    refine nv_iald (j := 4) cx hK hP 1 1 rfl rfl (by omega) (by decide) dX7_count_82 ?_
    refine RO.callV (As := [.int (M 0 4)]) (rest := []) cx (c_X7_rowsOf l G ad M (M 0 4) hok) gX7_count_X7_rowsOf rfl hd_X7_rowsOf ⟨Nat.le_of_ble_eq_true rfl, Nat.le_of_ble_eq_true rfl⟩ (va_recv hK hP (ci := 6) (q0 := 0) rfl rfl) hK hN hP rfl hl.1 rfl (Nat.le_of_ble_eq_true rfl) dX7_count_83 ⟨Nat.zero_le _, Nat.zero_le _⟩ ?_
    exact RO.ret (x := mRows (M 0) (M 0 4)) cx hr hlocks dX7_count_86 (by simp [mCount, w_7])
  by_cases w_8 : what = 7
  · refine lv_tableIn (tgt := 87) (off := 86) cx.1 cx.2.1 dX7_count_1 (by rw [w_8]; decide) (by rw [w_8]; decide) (by rw [w_8]; decide) (by decide) ?_
    refine lv_aload_n cx.1 cx.2.1 dX7_count_87 rfl (lv_at hl 0 rfl) ?_
    refine va_get (ci := 6) (C := RX7) (T := TX7) (N := 7) (v := .ref (ad 1)) cx.1 cx.2.1 cx.2.2.2.2 iw_X7_count_X7 cx.2.2.2.1 hK hP 0 rfl rfl 0 (by decide) (cx.2.2.2.2 _ fw_X7_count_f7) (fun _ h9 => h9) rfl dX7_count_88 ?_
    refine lv_bipush (v := nI 6) cx.1 cx.2.1 dX7_count_91 (by decide) ?_
    refine nv_iald (j := 6) cx hK hP 1 1 rfl rfl (by omega) (by decide) dX7_count_93 ?_
    exact RO.ret (x := M 0 6) cx hr hlocks dX7_count_94 (by simp [mCount, w_8])
  by_cases w_9 : what = 8
  · refine lv_tableIn (tgt := 95) (off := 94) cx.1 cx.2.1 dX7_count_1 (by rw [w_9]; decide) (by rw [w_9]; decide) (by rw [w_9]; decide) (by decide) ?_
    refine lv_aload_n cx.1 cx.2.1 dX7_count_95 rfl (lv_at hl 0 rfl) ?_
    refine va_get (ci := 6) (C := RX7) (T := TX7) (N := 7) (v := .ref (ad 1)) cx.1 cx.2.1 cx.2.2.2.2 iw_X7_count_X7 cx.2.2.2.1 hK hP 0 rfl rfl 0 (by decide) (cx.2.2.2.2 _ fw_X7_count_f7) (fun _ h9 => h9) rfl dX7_count_96 ?_
    refine lv_bipush (v := nI 7) cx.1 cx.2.1 dX7_count_99 (by decide) ?_
    refine nv_iald (j := 7) cx hK hP 1 1 rfl rfl (by omega) (by decide) dX7_count_101 ?_
    exact RO.ret (x := M 0 7) cx hr hlocks dX7_count_102 (by simp [mCount, w_9])
  by_cases w_10 : what = 9
  · refine lv_tableIn (tgt := 103) (off := 102) cx.1 cx.2.1 dX7_count_1 (by rw [w_10]; decide) (by rw [w_10]; decide) (by rw [w_10]; decide) (by decide) ?_
    refine lv_aload_n cx.1 cx.2.1 dX7_count_103 rfl (lv_at hl 0 rfl) ?_
    refine va_get (ci := 6) (C := RX7) (T := TX7) (N := 7) (v := .ref (ad 1)) cx.1 cx.2.1 cx.2.2.2.2 iw_X7_count_X7 cx.2.2.2.1 hK hP 0 rfl rfl 0 (by decide) (cx.2.2.2.2 _ fw_X7_count_f7) (fun _ h9 => h9) rfl dX7_count_104 ?_
    refine lv_bipush (v := nI 8) cx.1 cx.2.1 dX7_count_107 (by decide) ?_
    refine nv_iald (j := 8) cx hK hP 1 1 rfl rfl (by omega) (by decide) dX7_count_109 ?_
    exact RO.ret (x := M 0 8) cx hr hlocks dX7_count_110 (by simp [mCount, w_10])
  by_cases w_11 : what = 10
  · refine lv_tableIn (tgt := 111) (off := 110) cx.1 cx.2.1 dX7_count_1 (by rw [w_11]; decide) (by rw [w_11]; decide) (by rw [w_11]; decide) (by decide) ?_
    refine lv_aload_n cx.1 cx.2.1 dX7_count_111 rfl (lv_at hl 0 rfl) ?_
    refine va_get (ci := 6) (C := RX7) (T := TX7) (N := 7) (v := .int (M 4 0)) cx.1 cx.2.1 cx.2.2.2.2 iw_X7_count_X7 cx.2.2.2.1 hK hP 0 rfl rfl 2 (by decide) (cx.2.2.2.2 _ fw_X7_count_f23) (fun _ h9 => h9) rfl dX7_count_112 ?_
    exact RO.ret (x := M 4 0) cx hr hlocks dX7_count_115 (by simp [mCount, w_11])
  by_cases w_12 : what = 11
  · refine lv_tableIn (tgt := 116) (off := 115) cx.1 cx.2.1 dX7_count_1 (by rw [w_12]; decide) (by rw [w_12]; decide) (by rw [w_12]; decide) (by decide) ?_
    refine lv_aload_n cx.1 cx.2.1 dX7_count_116 rfl (lv_at hl 0 rfl) ?_
    refine va_get (ci := 6) (C := RX7) (T := TX7) (N := 7) (v := .int (M 4 2)) cx.1 cx.2.1 cx.2.2.2.2 iw_X7_count_X7 cx.2.2.2.1 hK hP 0 rfl rfl 5 (by decide) (cx.2.2.2.2 _ fw_X7_count_f122) (fun _ h9 => h9) rfl dX7_count_117 ?_
    exact RO.ret (x := M 4 2) cx hr hlocks dX7_count_120 (by simp [mCount, w_12])
  refine lv_tableOut (tgt := 121) cx.1 cx.2.1 dX7_count_1 (sw_out what [0, 1, 2, 3, 4, 5, 6, 7, 8, 9, 10, 11] (List.forall_mem_cons.mpr ⟨sw_ne w_1 (by decide), (List.forall_mem_cons.mpr ⟨sw_ne w_2 (by decide), (List.forall_mem_cons.mpr ⟨sw_ne w_3 (by decide), (List.forall_mem_cons.mpr ⟨sw_ne w_4 (by decide), (List.forall_mem_cons.mpr ⟨sw_ne w_5 (by decide), (List.forall_mem_cons.mpr ⟨sw_ne w_6 (by decide), (List.forall_mem_cons.mpr ⟨sw_ne w_7 (by decide), (List.forall_mem_cons.mpr ⟨sw_ne w_8 (by decide), (List.forall_mem_cons.mpr ⟨sw_ne w_9 (by decide), (List.forall_mem_cons.mpr ⟨sw_ne w_10 (by decide), (List.forall_mem_cons.mpr ⟨sw_ne w_11 (by decide), (List.forall_mem_cons.mpr ⟨sw_ne w_12 (by decide), (fun _ h => absurd h List.not_mem_nil)⟩)⟩)⟩)⟩)⟩)⟩)⟩)⟩)⟩)⟩)⟩)⟩) (fun z h1 h2 => by simp only [List.mem_cons, List.not_mem_nil, or_false]; omega)) (by decide) ?_
  refine lv_sipush (v := (-1002)) cx.1 cx.2.1 dX7_count_121 (by decide) ?_
  exact RO.ret (x := (-1002)) cx hr hlocks dX7_count_124 (by simp [mCount, w_1, w_2, w_3, w_4, w_5, w_6, w_7, w_8, w_9, w_10, w_11, w_12])

theorem iw_X7_signAt_X7 : ∀ w ∈ wsX70, w ∈ wsX7_signAt := fun _ h => List.mem_cons_of_mem _ (List.mem_append_right _ h)
theorem fw_X7_signAt_f7 : (Cond.fieldLink RX7 7 "NamePlateModel" "now" "[I") ∈ wsX7_signAt := List.mem_of_getElem? (i := 1) rfl
set_option maxHeartbeats 4000000 in
set_option maxRecDepth 100000 in
theorem c_X7_signAt (l : Launch) (G : GG) (ad : Nat → Nat) (M : XS) (x : Int32) (y : Int32) (hok : okM (M 0)) : RO l yX7_signAt wsX7_signAt 9 197 G (mdC G ad M) [.ref (ad 0), .int x, .int y] (mAt (M 0) x y) := by
  refine RO.start (cc := cX7_signAt) (maxL := 9) (ret := (some .int)) (by decide) rfl (Nat.le_of_ble_eq_true rfl) ?_
  intro p e s m below meth c ls cx hr hlocks hK hN hP hl
  have cx : CallFix p m c cX7_signAt 9 s [.ref (ad 0), .int x, .int y].toArray wsX7_signAt RX7 := cx
  have hl : lv_has ls 9 [(0, .ref (ad 0)), (1, .int x), (2, .int y)] := hl
  have hn20 := hok.n20
  refine lv_iload_n cx.1 cx.2.1 dX7_signAt_0 rfl (lv_at hl 1 rfl) ?_
  refine lv_if_lt (x := x) (tgt := 8) cx.1 cx.2.1 dX7_signAt_1 (by decide) (fun c_1 => ?_) (fun c_1 => ?_)
  · refine lv_sipush (v := (-1002)) cx.1 cx.2.1 dX7_signAt_8 (by decide) ?_
    exact RO.ret (x := (-1002)) cx hr hlocks dX7_signAt_11 (by simp [mAt, c_1])
  · refine lv_iload_n cx.1 cx.2.1 dX7_signAt_4 rfl (lv_at hl 2 rfl) ?_
    refine lv_if_ge (x := y) (tgt := 12) cx.1 cx.2.1 dX7_signAt_5 (by decide) (fun c_2 => ?_) (fun c_2 => ?_)
    · refine lv_aload_n cx.1 cx.2.1 dX7_signAt_12 rfl (lv_at hl 0 rfl) ?_
      refine RO.callV (As := []) (rest := []) cx (c_X7_size l G ad M hok) gX7_signAt_X7_size rfl hd_X7_size ⟨Nat.le_of_ble_eq_true rfl, Nat.le_of_ble_eq_true rfl⟩ (va_recv hK hP (ci := 6) (q0 := 0) rfl rfl) hK hN hP rfl hl.1 rfl (Nat.le_of_ble_eq_true rfl) dX7_signAt_13 ⟨Nat.zero_le _, Nat.zero_le _⟩ ?_
      refine lv_istore_n (lv' := [(3, .int (mSize (M 0))), (0, .ref (ad 0)), (1, .int x), (2, .int y)]) cx.1 cx.2.1 dX7_signAt_16 rfl hl (by decide) rfl (fun ls hl => ?_)
      refine lv_iconst (v := nI 0) cx.1 cx.2.1 dX7_signAt_17 (by decide) ?_
      refine lv_istore (lv' := [(4, .int (nI 0)), (3, .int (mSize (M 0))), (0, .ref (ad 0)), (1, .int x), (2, .int y)]) cx.1 cx.2.1 dX7_signAt_18 hl (by decide) rfl (fun ls hl => ?_)
      have lp20 : ∀ (r : Nat) (k : Nat) (hr9 : mn (M 0) - k < r) (hi : k ≤ mn (M 0)) (hno : ∀ j, j < k → mHk (M 0) (mSize (M 0)) x y j = false) (ls : Array Slot), lv_has ls 9 [(0, .ref (ad 0)), (1, .int x), (2, .int y), (3, .int (mSize (M 0))), (4, .int (nI k))] → W p l e ({ frames := 9, cells := 0, slots := 0, locals := 197 } : Room) s m [.ref (ad 0), .int x, .int y].toArray below meth c s.heap [] 0 0 (MQ below (vp_Si (fun r => r = (mAt (M 0) x y))) [.ref (ad 0), .int x, .int y].toArray s 0 0 (fun _ => False)) (F0 m 20 ls []) := by
        intro r
        induction r with
        | zero => intro k hr9; exact absurd hr9 (Nat.not_lt_zero _)
        | succ r ih20 =>
          intro k hr9 hi hno ls hl
          refine lv_iload cx.1 cx.2.1 dX7_signAt_20 (lv_at hl 4 rfl) ?_
          refine lv_aload_n cx.1 cx.2.1 dX7_signAt_22 rfl (lv_at hl 0 rfl) ?_
          refine va_get (ci := 6) (C := RX7) (T := TX7) (N := 7) (v := .ref (ad 1)) cx.1 cx.2.1 cx.2.2.2.2 iw_X7_signAt_X7 cx.2.2.2.1 hK hP 0 rfl rfl 0 (by decide) (cx.2.2.2.2 _ fw_X7_signAt_f7) (fun _ h9 => h9) rfl dX7_signAt_23 ?_
          refine lv_iconst (v := nI 4) cx.1 cx.2.1 dX7_signAt_26 (by decide) ?_
          refine nv_iald (j := 4) cx hK hP 1 1 rfl rfl (by omega) (by decide) dX7_signAt_27 ?_
          refine nv_eqi (y := nI (mn (M 0))) hok.n ?_
          refine nv_icmp_ge (a := k) (b := mn (M 0)) (tgt := 160) cx dX7_signAt_28 (by decide) (by omega) (by omega) (fun c_3 => ?_) (fun c_3 => ?_)
          · refine lv_sipush (v := (-1005)) cx.1 cx.2.1 dX7_signAt_160 (by decide) ?_
            exact RO.ret (x := (-1005)) cx hr hlocks dX7_signAt_163 (by first | (simp [mAt, c_1, c_2, c_3]; done) | (have e3 : fstN (mHk (M 0) (mSize (M 0)) x y) (mn (M 0)) = k := fstN_eq hi hno (fun q => absurd q (by omega)); have e4 : k = mn (M 0) := (by omega); simp [mAt, e3, e4, c_1, c_2, c_3]))
          · refine lv_iload_n cx.1 cx.2.1 dX7_signAt_31 rfl (lv_at hl 3 rfl) ?_
            refine lv_if_le (x := mSize (M 0)) (tgt := 160) cx.1 cx.2.1 dX7_signAt_32 (by decide) (fun c_4 => ?_) (fun c_4 => ?_)
            · refine lv_sipush (v := (-1005)) cx.1 cx.2.1 dX7_signAt_160 (by decide) ?_
              exact RO.ret (x := (-1005)) cx hr hlocks dX7_signAt_163 (by first | (simp [mAt, c_1, c_2, c_3, c_4]; done) | (have e3 : fstN (mHk (M 0) (mSize (M 0)) x y) (mn (M 0)) = k := fstN_eq hi hno (fun q => absurd q (by omega)); have e4 : k = mn (M 0) := (by omega); simp [mAt, e3, e4, c_1, c_2, c_3, c_4]))
            · refine lv_aload_n cx.1 cx.2.1 dX7_signAt_35 rfl (lv_at hl 0 rfl) ?_
              refine va_get (ci := 6) (C := RX7) (T := TX7) (N := 7) (v := .ref (ad 1)) cx.1 cx.2.1 cx.2.2.2.2 iw_X7_signAt_X7 cx.2.2.2.1 hK hP 0 rfl rfl 0 (by decide) (cx.2.2.2.2 _ fw_X7_signAt_f7) (fun _ h9 => h9) rfl dX7_signAt_36 ?_
              refine lv_iconst (v := nI 2) cx.1 cx.2.1 dX7_signAt_39 (by decide) ?_
              refine nv_iald (j := 2) cx hK hP 1 1 rfl rfl (by omega) (by decide) dX7_signAt_40 ?_
              refine lv_bipush (v := nI 12) cx.1 cx.2.1 dX7_signAt_41 (by decide) ?_
              refine lv_iload_n cx.1 cx.2.1 dX7_signAt_43 rfl (lv_at hl 3 rfl) ?_
              refine lv_imul (x := 12) (y := mSize (M 0)) cx.1 cx.2.1 dX7_signAt_44 ?_
              refine lv_aload_n cx.1 cx.2.1 dX7_signAt_45 rfl (lv_at hl 0 rfl) ?_
              refine lv_iload cx.1 cx.2.1 dX7_signAt_46 (lv_at hl 4 rfl) ?_
              refine RO.callV (As := [.int (nI k)]) (rest := [.int (12 * (mSize (M 0))), .int (M 0 2)]) cx (c_X7_rowOf l G ad M k hok) gX7_signAt_X7_rowOf rfl hd_X7_rowOf ⟨Nat.le_of_ble_eq_true rfl, Nat.le_of_ble_eq_true rfl⟩ (va_recv hK hP (ci := 6) (q0 := 0) rfl rfl) hK hN hP rfl hl.1 rfl (Nat.le_of_ble_eq_true rfl) dX7_signAt_48 ⟨Nat.zero_le _, Nat.zero_le _⟩ ?_
              refine lv_imul (x := 12 * (mSize (M 0))) (y := mRow (M 0) k) cx.1 cx.2.1 dX7_signAt_51 ?_
              refine lv_iadd (x := M 0 2) (y := (12 * (mSize (M 0))) * (mRow (M 0) k)) cx.1 cx.2.1 dX7_signAt_52 ?_
              refine lv_istore (lv' := [(5, .int ((M 0 2) + ((12 * (mSize (M 0))) * (mRow (M 0) k)))), (0, .ref (ad 0)), (1, .int x), (2, .int y), (3, .int (mSize (M 0))), (4, .int (nI k))]) cx.1 cx.2.1 dX7_signAt_53 hl (by decide) rfl (fun ls hl => ?_)
              refine lv_aload_n cx.1 cx.2.1 dX7_signAt_55 rfl (lv_at hl 1 rfl) ?_
              refine lv_iload cx.1 cx.2.1 dX7_signAt_56 (lv_at hl 5 rfl) ?_
              refine lv_iload_n cx.1 cx.2.1 dX7_signAt_58 rfl (lv_at hl 4 rfl) ?_
              refine RO.callV (As := [.int (nI k), .int (mSize (M 0))]) (rest := []) cx (c_X7_begin l G ad M k (mSize (M 0)) hok (by omega)) gX7_signAt_X7_begin rfl hd_X7_begin ⟨Nat.le_of_ble_eq_true rfl, Nat.le_of_ble_eq_true rfl⟩ (va_recv hK hP (ci := 6) (q0 := 0) rfl rfl) hK hN hP rfl hl.1 rfl (Nat.le_of_ble_eq_true rfl) dX7_signAt_59 ⟨Nat.zero_le _, Nat.zero_le _⟩ ?_
              refine lv_istore (lv' := [(6, .int (mBeg (M 0) k (mSize (M 0)))), (5, .int ((M 0 2) + ((12 * (mSize (M 0))) * (mRow (M 0) k)))), (0, .ref (ad 0)), (1, .int x), (2, .int y), (3, .int (mSize (M 0))), (4, .int (nI k))]) cx.1 cx.2.1 dX7_signAt_62 hl (by decide) rfl (fun ls hl => ?_)
              refine lv_iconst (v := nI 0) cx.1 cx.2.1 dX7_signAt_64 (by decide) ?_
              refine lv_istore (lv' := [(7, .int (nI 0)), (6, .int (mBeg (M 0) k (mSize (M 0)))), (5, .int ((M 0 2) + ((12 * (mSize (M 0))) * (mRow (M 0) k)))), (0, .ref (ad 0)), (1, .int x), (2, .int y), (3, .int (mSize (M 0))), (4, .int (nI k))]) cx.1 cx.2.1 dX7_signAt_65 hl (by decide) rfl (fun ls hl => ?_)
              have hl1 := hok.l1 (show k < mn (M 0) by omega)
              have hl16 := hok.l16 (show k < mn (M 0) by omega)
              have lp67 : ∀ (r : Nat) (i : Nat) (hr9 : ml (M 0) k - i < r) (hx : i ≤ ml (M 0) k) (hxo : ∀ j, j < i → mHt (M 0) (mSize (M 0)) x y k j = false) (ls : Array Slot), lv_has ls 9 [(0, .ref (ad 0)), (1, .int x), (2, .int y), (3, .int (mSize (M 0))), (4, .int (nI k)), (5, .int ((M 0 2) + ((12 * (mSize (M 0))) * (mRow (M 0) k)))), (6, .int (mBeg (M 0) k (mSize (M 0)))), (7, .int (nI i))] → W p l e ({ frames := 9, cells := 0, slots := 0, locals := 197 } : Room) s m [.ref (ad 0), .int x, .int y].toArray below meth c s.heap [] 0 0 (MQ below (vp_Si (fun r => r = (mAt (M 0) x y))) [.ref (ad 0), .int x, .int y].toArray s 0 0 (fun _ => False)) (F0 m 67 ls []) := by
                intro r
                induction r with
                | zero => intro i hr9; exact absurd hr9 (Nat.not_lt_zero _)
                | succ r ih67 =>
                  intro i hr9 hx hxo ls hl
                  refine lv_iload cx.1 cx.2.1 dX7_signAt_67 (lv_at hl 7 rfl) ?_
                  refine lv_aload_n cx.1 cx.2.1 dX7_signAt_69 rfl (lv_at hl 0 rfl) ?_
                  refine lv_iload cx.1 cx.2.1 dX7_signAt_70 (lv_at hl 4 rfl) ?_
                  refine lv_iconst (v := nI 0) cx.1 cx.2.1 dX7_signAt_72 (by decide) ?_
                  refine RO.callV (As := [.int (nI k), .int (nI 0)]) (rest := [.int (nI i)]) cx (c_X7_of l G ad M k 0 (by omega)) gX7_signAt_X7_of rfl hd_X7_of ⟨Nat.le_of_ble_eq_true rfl, Nat.le_of_ble_eq_true rfl⟩ (va_recv hK hP (ci := 6) (q0 := 0) rfl rfl) hK hN hP rfl hl.1 rfl (Nat.le_of_ble_eq_true rfl) dX7_signAt_73 ⟨Nat.zero_le _, Nat.zero_le _⟩ ?_
                  refine nv_eqi (y := nI (ml (M 0) k)) (hok.l (by omega)) ?_
                  refine nv_icmp_ge (a := i) (b := ml (M 0) k) (tgt := 154) cx dX7_signAt_76 (by decide) (by omega) (by omega) (fun c_5 => ?_) (fun c_5 => ?_)
                  · have hk0 : mHk (M 0) (mSize (M 0)) x y k = false := decide_eq_false (by rw [fstN_eq hx hxo (fun q => absurd q (by omega))]; omega)
                    refine lv_iinc (v := nI (k + 1)) (lv' := [(4, .int (nI (k + 1))), (0, .ref (ad 0)), (1, .int x), (2, .int y), (3, .int (mSize (M 0))), (5, .int ((M 0 2) + ((12 * (mSize (M 0))) * (mRow (M 0) k)))), (6, .int (mBeg (M 0) k (mSize (M 0)))), (7, .int (nI i))]) cx.1 cx.2.1 dX7_signAt_154 hl (k := 4) rfl (show nI k + Int32.ofInt 1 = nI (k + 1) from nI_add k 1) (by decide) rfl (fun ls hl => ?_)
                    refine lv_goto (tgt := 20) cx.1 cx.2.1 dX7_signAt_157 (by decide) ?_
                    exact ih20 (k + 1) (by omega) (by omega) (lt_s hno hk0) ls (lv_sub hl [1, 2, 3, 4, 0] rfl)
                  · refine lv_iload_n cx.1 cx.2.1 dX7_signAt_79 rfl (lv_at hl 2 rfl) ?_
                    refine lv_iload cx.1 cx.2.1 dX7_signAt_80 (lv_at hl 5 rfl) ?_
                    refine lv_iload cx.1 cx.2.1 dX7_signAt_82 (lv_at hl 5 rfl) ?_
                    refine lv_bipush (v := nI 12) cx.1 cx.2.1 dX7_signAt_84 (by decide) ?_
                    refine lv_iload_n cx.1 cx.2.1 dX7_signAt_86 rfl (lv_at hl 3 rfl) ?_
                    refine lv_imul (x := 12) (y := mSize (M 0)) cx.1 cx.2.1 dX7_signAt_87 ?_
                    refine lv_iadd (x := (M 0 2) + ((12 * (mSize (M 0))) * (mRow (M 0) k))) (y := 12 * (mSize (M 0))) cx.1 cx.2.1 dX7_signAt_88 ?_
                    refine lv_iconst (v := nI 1) cx.1 cx.2.1 dX7_signAt_89 (by decide) ?_
                    refine lv_isub (x := ((M 0 2) + ((12 * (mSize (M 0))) * (mRow (M 0) k))) + (12 * (mSize (M 0)))) (y := 1) cx.1 cx.2.1 dX7_signAt_90 ?_
                    refine RO.callS (As := [.int y, .int ((M 0 2) + ((12 * (mSize (M 0))) * (mRow (M 0) k))), .int ((((M 0 2) + ((12 * (mSize (M 0))) * (mRow (M 0) k))) + (12 * (mSize (M 0)))) - 1)]) (rest := []) cx (c_X7_in l G y ((M 0 2) + ((12 * (mSize (M 0))) * (mRow (M 0) k))) ((((M 0 2) + ((12 * (mSize (M 0))) * (mRow (M 0) k))) + (12 * (mSize (M 0)))) - 1)) gX7_signAt_X7_in rfl hd_X7_in ⟨Nat.le_of_ble_eq_true rfl, Nat.le_of_ble_eq_true rfl⟩ hK hN va_P.nil rfl hl.1 rfl (Nat.le_of_ble_eq_true rfl) dX7_signAt_91 ⟨Nat.zero_le _, Nat.zero_le _⟩ ?_
                    refine nv_ifz (b := inR y ((M 0 2) + ((12 * (mSize (M 0))) * (mRow (M 0) k))) ((((M 0 2) + ((12 * (mSize (M 0))) * (mRow (M 0) k))) + (12 * (mSize (M 0)))) - 1)) (tgt := 154) cx dX7_signAt_94 (by decide) (fun c_6 => ?_) (fun c_6 => ?_)
                    · have hk0 : mHk (M 0) (mSize (M 0)) x y k = false := decide_eq_false (by rw [fstN_eq (Nat.le_refl _) (fun j _ => by simp [mHt, show mYin (M 0) (mSize (M 0)) y k = false from c_6]) (fun q => absurd q (Nat.lt_irrefl _))]; exact Nat.lt_irrefl _)
                      refine lv_iinc (v := nI (k + 1)) (lv' := [(4, .int (nI (k + 1))), (0, .ref (ad 0)), (1, .int x), (2, .int y), (3, .int (mSize (M 0))), (5, .int ((M 0 2) + ((12 * (mSize (M 0))) * (mRow (M 0) k)))), (6, .int (mBeg (M 0) k (mSize (M 0)))), (7, .int (nI i))]) cx.1 cx.2.1 dX7_signAt_154 hl (k := 4) rfl (show nI k + Int32.ofInt 1 = nI (k + 1) from nI_add k 1) (by decide) rfl (fun ls hl => ?_)
                      refine lv_goto (tgt := 20) cx.1 cx.2.1 dX7_signAt_157 (by decide) ?_
                      exact ih20 (k + 1) (by omega) (by omega) (lt_s hno hk0) ls (lv_sub hl [1, 2, 3, 4, 0] rfl)
                    · refine lv_iload cx.1 cx.2.1 dX7_signAt_97 (lv_at hl 6 rfl) ?_
                      refine lv_iload_n cx.1 cx.2.1 dX7_signAt_99 rfl (lv_at hl 3 rfl) ?_
                      refine lv_aload_n cx.1 cx.2.1 dX7_signAt_100 rfl (lv_at hl 0 rfl) ?_
                      refine lv_iload cx.1 cx.2.1 dX7_signAt_101 (lv_at hl 4 rfl) ?_
                      refine lv_iload cx.1 cx.2.1 dX7_signAt_103 (lv_at hl 7 rfl) ?_
                      refine RO.callV (As := [.int (nI k), .int (nI i)]) (rest := [.int (mSize (M 0)), .int (mBeg (M 0) k (mSize (M 0)))]) cx (c_X7_unitsTo l G ad M k i hok (by omega) (by omega)) gX7_signAt_X7_unitsTo rfl hd_X7_unitsTo ⟨Nat.le_of_ble_eq_true rfl, Nat.le_of_ble_eq_true rfl⟩ (va_recv hK hP (ci := 6) (q0 := 0) rfl rfl) hK hN hP rfl hl.1 rfl (Nat.le_of_ble_eq_true rfl) dX7_signAt_105 ⟨Nat.zero_le _, Nat.zero_le _⟩ ?_
                      refine lv_imul (x := mSize (M 0)) (y := mUt (M 0) k i) cx.1 cx.2.1 dX7_signAt_108 ?_
                      refine lv_iadd (x := mBeg (M 0) k (mSize (M 0))) (y := (mSize (M 0)) * (mUt (M 0) k i)) cx.1 cx.2.1 dX7_signAt_109 ?_
                      refine lv_istore (lv' := [(8, .int ((mBeg (M 0) k (mSize (M 0))) + ((mSize (M 0)) * (mUt (M 0) k i)))), (0, .ref (ad 0)), (1, .int x), (2, .int y), (3, .int (mSize (M 0))), (4, .int (nI k)), (5, .int ((M 0 2) + ((12 * (mSize (M 0))) * (mRow (M 0) k)))), (6, .int (mBeg (M 0) k (mSize (M 0)))), (7, .int (nI i))]) cx.1 cx.2.1 dX7_signAt_110 hl (by decide) rfl (fun ls hl => ?_)
                      refine lv_iload_n cx.1 cx.2.1 dX7_signAt_112 rfl (lv_at hl 2 rfl) ?_
                      refine lv_iload cx.1 cx.2.1 dX7_signAt_113 (lv_at hl 0 rfl) ?_
                      refine lv_iload cx.1 cx.2.1 dX7_signAt_115 (lv_at hl 0 rfl) ?_
                      refine lv_iload_n cx.1 cx.2.1 dX7_signAt_117 rfl (lv_at hl 4 rfl) ?_
                      refine lv_aload_n cx.1 cx.2.1 dX7_signAt_118 rfl (lv_at hl 1 rfl) ?_
                      refine lv_iload cx.1 cx.2.1 dX7_signAt_119 (lv_at hl 5 rfl) ?_
                      refine lv_iload cx.1 cx.2.1 dX7_signAt_121 (lv_at hl 8 rfl) ?_
                      refine RO.callV (As := [.int (nI k), .int (nI i)]) (rest := [.int (mSize (M 0)), .int ((mBeg (M 0) k (mSize (M 0))) + ((mSize (M 0)) * (mUt (M 0) k i))), .int ((mBeg (M 0) k (mSize (M 0))) + ((mSize (M 0)) * (mUt (M 0) k i))), .int x]) cx (c_X7_signOf l G ad M k i (by omega)) gX7_signAt_X7_signOf rfl hd_X7_signOf ⟨Nat.le_of_ble_eq_true rfl, Nat.le_of_ble_eq_true rfl⟩ (va_recv hK hP (ci := 6) (q0 := 0) rfl rfl) hK hN hP rfl hl.1 rfl (Nat.le_of_ble_eq_true rfl) dX7_signAt_123 ⟨Nat.zero_le _, Nat.zero_le _⟩ ?_
                      refine RO.callS (As := [.int (mSg (M 0) k i)]) (rest := [.int (mSize (M 0)), .int ((mBeg (M 0) k (mSize (M 0))) + ((mSize (M 0)) * (mUt (M 0) k i))), .int ((mBeg (M 0) k (mSize (M 0))) + ((mSize (M 0)) * (mUt (M 0) k i))), .int x]) cx (c_X7_wide l G (mSg (M 0) k i)) gX7_signAt_X7_wide rfl hd_X7_wide ⟨Nat.le_of_ble_eq_true rfl, Nat.le_of_ble_eq_true rfl⟩ hK hN va_P.nil rfl hl.1 rfl (Nat.le_of_ble_eq_true rfl) dX7_signAt_126 ⟨Nat.zero_le _, Nat.zero_le _⟩ ?_
                      refine lv_imul (x := mSize (M 0)) (y := mW (mSg (M 0) k i)) cx.1 cx.2.1 dX7_signAt_129 ?_
                      refine lv_iadd (x := (mBeg (M 0) k (mSize (M 0))) + ((mSize (M 0)) * (mUt (M 0) k i))) (y := (mSize (M 0)) * (mW (mSg (M 0) k i))) cx.1 cx.2.1 dX7_signAt_130 ?_
                      refine lv_iconst (v := nI 1) cx.1 cx.2.1 dX7_signAt_131 (by decide) ?_
                      refine lv_isub (x := ((mBeg (M 0) k (mSize (M 0))) + ((mSize (M 0)) * (mUt (M 0) k i))) + ((mSize (M 0)) * (mW (mSg (M 0) k i)))) (y := 1) cx.1 cx.2.1 dX7_signAt_132 ?_
                      refine RO.callS (As := [.int x, .int ((mBeg (M 0) k (mSize (M 0))) + ((mSize (M 0)) * (mUt (M 0) k i))), .int ((((mBeg (M 0) k (mSize (M 0))) + ((mSize (M 0)) * (mUt (M 0) k i))) + ((mSize (M 0)) * (mW (mSg (M 0) k i)))) - 1)]) (rest := []) cx (c_X7_in l G x ((mBeg (M 0) k (mSize (M 0))) + ((mSize (M 0)) * (mUt (M 0) k i))) ((((mBeg (M 0) k (mSize (M 0))) + ((mSize (M 0)) * (mUt (M 0) k i))) + ((mSize (M 0)) * (mW (mSg (M 0) k i)))) - 1)) gX7_signAt_X7_in rfl hd_X7_in ⟨Nat.le_of_ble_eq_true rfl, Nat.le_of_ble_eq_true rfl⟩ hK hN va_P.nil rfl hl.1 rfl (Nat.le_of_ble_eq_true rfl) dX7_signAt_133 ⟨Nat.zero_le _, Nat.zero_le _⟩ ?_
                      refine nv_ifz (b := inR x ((mBeg (M 0) k (mSize (M 0))) + ((mSize (M 0)) * (mUt (M 0) k i))) ((((mBeg (M 0) k (mSize (M 0))) + ((mSize (M 0)) * (mUt (M 0) k i))) + ((mSize (M 0)) * (mW (mSg (M 0) k i)))) - 1)) (tgt := 148) cx dX7_signAt_136 (by decide) (fun c_7 => ?_) (fun c_7 => ?_)
                      · refine lv_iinc (v := nI (i + 1)) (lv' := [(7, .int (nI (i + 1))), (8, .int ((mBeg (M 0) k (mSize (M 0))) + ((mSize (M 0)) * (mUt (M 0) k i)))), (0, .ref (ad 0)), (1, .int x), (2, .int y), (3, .int (mSize (M 0))), (4, .int (nI k)), (5, .int ((M 0 2) + ((12 * (mSize (M 0))) * (mRow (M 0) k)))), (6, .int (mBeg (M 0) k (mSize (M 0))))]) cx.1 cx.2.1 dX7_signAt_148 hl (k := 8) rfl (show nI i + Int32.ofInt 1 = nI (i + 1) from nI_add i 1) (by decide) rfl (fun ls hl => ?_)
                        refine lv_goto (tgt := 67) cx.1 cx.2.1 dX7_signAt_151 (by decide) ?_
                        have hx2 : ∀ j, j < i + 1 → mHt (M 0) (mSize (M 0)) x y k j = false := lt_s hxo (by simp [mHt, mXin, mFrm, c_1, c_2, c_3, c_4, c_5, c_6, c_7])
                        exact ih67 (i + 1) (by omega) (by omega) hx2 ls (lv_sub hl [2, 3, 4, 5, 6, 7, 8, 0] rfl)
                      · refine lv_bipush (v := nI 100) cx.1 cx.2.1 dX7_signAt_139 (by decide) ?_
                        refine lv_iload cx.1 cx.2.1 dX7_signAt_141 (lv_at hl 5 rfl) ?_
                        refine nv_imul cx (a := 100) (b := k) dX7_signAt_143 ?_
                        refine lv_iload cx.1 cx.2.1 dX7_signAt_144 (lv_at hl 8 rfl) ?_
                        refine nv_iadd cx (a := 100 * k) (b := i) dX7_signAt_146 ?_
                        exact RO.ret (x := nI (100 * k + i)) cx hr hlocks dX7_signAt_147 (by have hq : mHt (M 0) (mSize (M 0)) x y k i = true := (by simp [mHt, mYin, mTop, mXin, mFrm, c_1, c_2, c_3, c_4, c_5, c_6, c_7]); have e1 : fstN (mHt (M 0) (mSize (M 0)) x y k) (ml (M 0) k) = i := fstN_eq hx hxo (fun _ => hq); have e2 : mHk (M 0) (mSize (M 0)) x y k = true := decide_eq_true (by rw [e1]; omega); have e3 : fstN (mHk (M 0) (mSize (M 0)) x y) (mn (M 0)) = k := fstN_eq hi hno (fun _ => e2); simp [mAt, e3, e1, Int32.not_lt.mpr c_2, c_1, c_2, c_3, c_4, c_5, c_6, c_7])
              exact lp67 _ 0 (Nat.lt_succ_self _) (by omega) (fun j hj => absurd hj (Nat.not_lt_zero _)) ls (lv_sub hl [3, 4, 5, 6, 7, 2, 1, 0] rfl)
      exact lp20 _ 0 (Nat.lt_succ_self _) (by omega) (fun j hj => absurd hj (Nat.not_lt_zero _)) ls (lv_sub hl [2, 3, 4, 1, 0] rfl)
    · refine lv_sipush (v := (-1002)) cx.1 cx.2.1 dX7_signAt_8 (by decide) ?_
      exact RO.ret (x := (-1002)) cx hr hlocks dX7_signAt_11 (by simp [mAt, c_1, c_2])
