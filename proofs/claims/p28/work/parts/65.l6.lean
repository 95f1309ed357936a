/-! ===== specs_l6: laid by program (wip/p28/lay28.py) ===== -/
set_option maxHeartbeats 4000000 in
set_option maxRecDepth 100000 in
theorem c_L_types (l : Launch) (G : GG) (a : Nat → Nat) (AD : Nat → Nat → Nat) (Y : Nat → XS) (g0 : Int32) (h0 : Int32) (hG : Gd Y) : LW l yL_types wsL_types 2 42 G (plC G a AD Y) [.ref (a 0), .int g0, .int h0] (fun v ws1 => ∃ n Y2, v = nI n ∧ 1 ≤ n ∧ n ≤ 3 ∧ TO Y Y2 n ∧ ws1 = plC G a AD Y2) := by
  refine LW.start (cc := cL_types) (maxL := 8) (ret := (some .int)) (by decide) rfl (Nat.le_of_ble_eq_true rfl) ?_
  intro p e s m below meth c ls cx hr hlocks hK hN hP hD hS hl
  have cx : CallFix p m c cL_types 8 s [.ref (a 0), .int g0, .int h0].toArray wsL_types RL := cx
  have hl : lv_has ls 8 [(0, .ref (a 0)), (1, .int g0), (2, .int h0)] := hl
  refine lv_iconst (v := nI 1) cx.1 cx.2.1 dL_types_0 (by decide) ?_
  refine lv_iload_n cx.1 cx.2.1 dL_types_1 rfl (lv_at hl 1 rfl) ?_
  refine lv_iconst (v := nI 3) cx.1 cx.2.1 dL_types_2 (by decide) ?_
  refine RO.callS (As := [.int g0, .int (nI 3)]) (rest := [.int (nI 1)]) cx (c_L_low l G g0 3 (by omega) (by omega)) gL_types_L_low rfl hd_L_low ⟨Nat.le_of_ble_eq_true rfl, Nat.le_of_ble_eq_true rfl⟩ hK hN va_P.nil rfl hl.1 rfl (Nat.le_of_ble_eq_true rfl) dL_types_3 ⟨Nat.zero_le _, Nat.zero_le _⟩ ?_
  refine nv_iadd cx (a := 1) (b := lowN g0 3) dL_types_6 ?_
  obtain ⟨nn, hn1, hn3, en⟩ : ∃ nn, 1 ≤ nn ∧ nn ≤ 3 ∧ nI (1 + lowN g0 3) = nI nn := ⟨1 + lowN g0 3, by omega, by have := lowN_lt g0 (m := 3) (by decide); omega, rfl⟩
  refine nv_eqi (y := nI nn) en ?_
  refine lv_istore_n (lv' := [(3, .int (nI nn)), (0, .ref (a 0)), (1, .int g0), (2, .int h0)]) cx.1 cx.2.1 dL_types_7 rfl hl (by decide) rfl (fun ls hl => ?_)
  refine lv_aload_n cx.1 cx.2.1 dL_types_8 rfl (lv_at hl 1 rfl) ?_
  refine WR.callV (As := []) (rest := []) cx (c_X6_clearText l G a AD Y) gL_types_X6_clearText rfl hd_X6_clearText ⟨Nat.le_of_ble_eq_true rfl, Nat.le_of_ble_eq_true rfl⟩ (va_recv hK hP (ci := 5) (q0 := 0) rfl rfl) hK hN hP hD hS (fun _ h => pl_wA0 h) rfl hl.1 rfl (Nat.le_of_ble_eq_true rfl) dL_types_9 ⟨Nat.zero_le _, Nat.zero_le _⟩ (fun H1 locs hP1 hk1 hS => ?_)
  have hP : va_P G.1 vwCl (plC G a AD ((yClear Y).2)) H1 := hP1
  have hD : va_D (wA (plC G a AD Y)) (plC G a AD ((yClear Y).2)) := pl_Dput hD
  generalize H1 = H at hP hS ⊢
  clear hP1 hk1
  obtain ⟨Yc, e0, hTc⟩ : ∃ Yc, (yClear Y).2 = Yc ∧ TO Y Yc 0 := ⟨_, rfl, to_0 hG⟩
  rw [e0] at hP hD
  have hP : va_P G.1 vwCl (plC G a AD Yc) H := hP
  have hD : va_D (wA (plC G a AD Y)) (plC G a AD Yc) := hD
  refine lv_istore (lv' := [(4, .int ((yClear Y).1)), (3, .int (nI nn)), (0, .ref (a 0)), (1, .int g0), (2, .int h0)]) cx.1 cx.2.1 dL_types_12 hl (by decide) rfl (fun ls hl => ?_)
  refine lv_iconst (v := nI 0) cx.1 cx.2.1 dL_types_14 (by decide) ?_
  refine lv_istore (lv' := [(5, .int (nI 0)), (4, .int ((yClear Y).1)), (3, .int (nI nn)), (0, .ref (a 0)), (1, .int g0), (2, .int h0)]) cx.1 cx.2.1 dL_types_15 hl (by decide) rfl (fun ls hl => ?_)
  have lp17 : ∀ (r : Nat) (k : Nat) (Yv : Nat → XS) (hr9 : nn - k < r) (hk : k ≤ nn) (hT : TO Y Yv k) (H : Heap) (locs : List Loc) (hP : va_P G.1 vwCl (plC G a AD Yv) H) (hD : va_D (wA (plC G a AD Y)) (plC G a AD Yv)) (hS : va_S (wA (plC G a AD Y)) s.heap H locs) (ls : Array Slot), lv_has ls 8 [(0, .ref (a 0)), (1, .int g0), (2, .int h0), (3, .int (nI nn)), (5, .int (nI k))] → W p l e ({ frames := 2, cells := 0, slots := 0, locals := 42 } : Room) s m [.ref (a 0), .int g0, .int h0].toArray below meth c H locs 0 0 (MQ below (QL G (plC G a AD Y) (fun v ws1 => ∃ n Y2, v = nI n ∧ 1 ≤ n ∧ n ≤ 3 ∧ TO Y Y2 n ∧ ws1 = plC G a AD Y2)) [.ref (a 0), .int g0, .int h0].toArray s 0 0 (wA (plC G a AD Y))) (F0 m 17 ls []) := by
    intro r
    induction r with
    | zero => intro k Yv hr9; exact absurd hr9 (Nat.not_lt_zero _)
    | succ r ih17 =>
      intro k Yv hr9 hk hT H locs hP hD hS ls hl
      refine lv_iload cx.1 cx.2.1 dL_types_17 (lv_at hl 4 rfl) ?_
      refine lv_iload_n cx.1 cx.2.1 dL_types_19 rfl (lv_at hl 3 rfl) ?_
      refine nv_icmp_ge (a := k) (b := nn) (tgt := 141) cx dL_types_20 (by decide) (by omega) (by omega) (fun c_1 => ?_) (fun c_1 => ?_)
      · refine lv_iload_n cx.1 cx.2.1 dL_types_141 rfl (lv_at hl 3 rfl) ?_
        exact LW.ret (x := nI nn) (ws1 := plC G a AD Yv) cx hr hlocks dL_types_142 ⟨nn, Yv, rfl, hn1, hn3, (show k = nn by omega) ▸ hT, rfl⟩ hP hS
      · refine lv_iload cx.1 cx.2.1 dL_types_23 (lv_at hl 4 rfl) ?_
        have jn25 : ∀ (Y2 : Nat → XS) (ls : Array Slot) (H : Heap) (locs : List Loc), va_P G.1 vwCl (plC G a AD Y2) H → va_D (wA (plC G a AD Y)) (plC G a AD Y2) → va_S (wA (plC G a AD Y)) s.heap H locs → TN Y Y2 k → lv_has ls 8 [(0, .ref (a 0)), (1, .int g0), (2, .int h0), (3, .int (nI nn)), (5, .int (nI k))] → W p l e ({ frames := 2, cells := 0, slots := 0, locals := 42 } : Room) s m [.ref (a 0), .int g0, .int h0].toArray below meth c H locs 0 0 (MQ below (QL G (plC G a AD Y) (fun v ws1 => ∃ n Y2, v = nI n ∧ 1 ≤ n ∧ n ≤ 3 ∧ TO Y Y2 n ∧ ws1 = plC G a AD Y2)) [.ref (a 0), .int g0, .int h0].toArray s 0 0 (wA (plC G a AD Y))) (F0 m 36 ls []) := by
          intro Y2 ls H locs hP hD hS hN2 hl
          refine lv_iconst (v := nI 1) cx.1 cx.2.1 dL_types_36 (by decide) ?_
          refine lv_iload_n cx.1 cx.2.1 dL_types_37 rfl (lv_at hl 2 rfl) ?_
          refine lv_iconst (v := nI 3) cx.1 cx.2.1 dL_types_38 (by decide) ?_
          refine lv_iload cx.1 cx.2.1 dL_types_39 (lv_at hl 4 rfl) ?_
          refine nv_imul cx (a := 3) (b := k) dL_types_41 ?_
          refine lv_ishr (x := h0) (y := nI (3 * k)) cx.1 cx.2.1 dL_types_42 ?_
          refine lv_bipush (v := nI 7) cx.1 cx.2.1 dL_types_43 (by decide) ?_
          refine lv_iand (x := h0 >>> ((nI (3 * k)) &&& 31)) (y := 7) cx.1 cx.2.1 dL_types_45 ?_
          obtain ⟨s7, hs7, es7⟩ := and7 (h0 >>> (nI (3 * k) &&& 31))
          refine nv_eqi (y := nI s7) es7 ?_
          refine nv_iadd cx (a := 1) (b := s7) dL_types_46 ?_
          refine lv_istore (lv' := [(6, .int (nI (1 + s7))), (0, .ref (a 0)), (1, .int g0), (2, .int h0), (3, .int (nI nn)), (5, .int (nI k))]) cx.1 cx.2.1 dL_types_47 hl (by decide) rfl (fun ls hl => ?_)
          refine lv_iconst (v := nI 0) cx.1 cx.2.1 dL_types_49 (by decide) ?_
          refine lv_istore (lv' := [(7, .int (nI 0)), (6, .int (nI (1 + s7))), (0, .ref (a 0)), (1, .int g0), (2, .int h0), (3, .int (nI nn)), (5, .int (nI k))]) cx.1 cx.2.1 dL_types_50 hl (by decide) rfl (fun ls hl => ?_)
          have lp52 : ∀ (r : Nat) (x : Nat) (Yw : Nat → XS) (hr9 : 1 + s7 - x < r) (hx : x ≤ 1 + s7) (hTI : TI Y Yw k x (1 + s7)) (H : Heap) (locs : List Loc) (hP : va_P G.1 vwCl (plC G a AD Yw) H) (hD : va_D (wA (plC G a AD Y)) (plC G a AD Yw)) (hS : va_S (wA (plC G a AD Y)) s.heap H locs) (ls : Array Slot), lv_has ls 8 [(0, .ref (a 0)), (1, .int g0), (2, .int h0), (3, .int (nI nn)), (5, .int (nI k)), (6, .int (nI (1 + s7))), (7, .int (nI x))] → W p l e ({ frames := 2, cells := 0, slots := 0, locals := 42 } : Room) s m [.ref (a 0), .int g0, .int h0].toArray below meth c H locs 0 0 (MQ below (QL G (plC G a AD Y) (fun v ws1 => ∃ n Y2, v = nI n ∧ 1 ≤ n ∧ n ≤ 3 ∧ TO Y Y2 n ∧ ws1 = plC G a AD Y2)) [.ref (a 0), .int g0, .int h0].toArray s 0 0 (wA (plC G a AD Y))) (F0 m 52 ls []) := by
            intro r
            induction r with
            | zero => intro x Yw hr9; exact absurd hr9 (Nat.not_lt_zero _)
            | succ r ih52 =>
              intro x Yw hr9 hx hTI H locs hP hD hS ls hl
              refine lv_iload cx.1 cx.2.1 dL_types_52 (lv_at hl 6 rfl) ?_
              refine lv_iload cx.1 cx.2.1 dL_types_54 (lv_at hl 5 rfl) ?_
              refine nv_icmp_ge (a := x) (b := 1 + s7) (tgt := 135) cx dL_types_56 (by decide) (by omega) (by omega) (fun c_2 => ?_) (fun c_2 => ?_)
              · refine lv_iinc (v := nI (k + 1)) (lv' := [(5, .int (nI (k + 1))), (0, .ref (a 0)), (1, .int g0), (2, .int h0), (3, .int (nI nn)), (6, .int (nI (1 + s7))), (7, .int (nI x))]) cx.1 cx.2.1 dL_types_135 hl (k := 4) rfl (show nI k + Int32.ofInt 1 = nI (k + 1) from nI_add k 1) (by decide) rfl (fun ls hl => ?_)
                refine lv_goto (tgt := 17) cx.1 cx.2.1 dL_types_138 (by decide) ?_
                exact ih17 (k + 1) Yw (by omega) (by omega) (to_s hTI (by omega) (by omega)) _ _ hP hD hS ls (lv_sub hl [1, 2, 3, 4, 0] rfl)
              · refine lv_aload_n cx.1 cx.2.1 dL_types_59 rfl (lv_at hl 0 rfl) ?_
                refine lv_bipush (v := nI 65) cx.1 cx.2.1 dL_types_60 (by decide) ?_
                refine lv_iload_n cx.1 cx.2.1 dL_types_62 rfl (lv_at hl 1 rfl) ?_
                refine lv_iload cx.1 cx.2.1 dL_types_63 (lv_at hl 4 rfl) ?_
                refine lv_ishr (x := g0) (y := nI k) cx.1 cx.2.1 dL_types_65 ?_
                refine lv_iload cx.1 cx.2.1 dL_types_66 (lv_at hl 6 rfl) ?_
                refine lv_iload_n cx.1 cx.2.1 dL_types_68 rfl (lv_at hl 2 rfl) ?_
                refine lv_bipush (v := nI 7) cx.1 cx.2.1 dL_types_69 (by decide) ?_
                refine lv_iand (x := h0) (y := 7) cx.1 cx.2.1 dL_types_71 ?_
                refine lv_imul (x := nI x) (y := h0 &&& 7) cx.1 cx.2.1 dL_types_72 ?_
                refine lv_iadd (x := g0 >>> ((nI k) &&& 31)) (y := (nI x) * (h0 &&& 7)) cx.1 cx.2.1 dL_types_73 ?_
                refine lv_iconst (v := nI 5) cx.1 cx.2.1 dL_types_74 (by decide) ?_
                refine RO.callS (As := [.int ((g0 >>> ((nI k) &&& 31)) + ((nI x) * (h0 &&& 7))), .int (nI 5)]) (rest := [.int (nI 65), .ref (a 0)]) cx (c_L_low l G ((g0 >>> ((nI k) &&& 31)) + ((nI x) * (h0 &&& 7))) 5 (by omega) (by omega)) gL_types_L_low rfl hd_L_low ⟨Nat.le_of_ble_eq_true rfl, Nat.le_of_ble_eq_true rfl⟩ hK hN va_P.nil rfl hl.1 rfl (Nat.le_of_ble_eq_true rfl) dL_types_75 ⟨Nat.zero_le _, Nat.zero_le _⟩ ?_
                refine nv_iadd cx (a := 65) (b := lowN ((g0 >>> ((nI k) &&& 31)) + ((nI x) * (h0 &&& 7))) 5) dL_types_78 ?_
                refine lv_i2c (x := nI (65 + (lowN ((g0 >>> ((nI k) &&& 31)) + ((nI x) * (h0 &&& 7))) 5))) (v := i2c (nI (65 + (lowN ((g0 >>> ((nI k) &&& 31)) + ((nI x) * (h0 &&& 7))) 5)))) cx.1 cx.2.1 dL_types_79 rfl ?_
                obtain ⟨cl, hcl1, hcl2, ecl⟩ := let_n ((g0 >>> ((nI k) &&& 31)) + ((nI x) * (h0 &&& 7)))
                refine nv_eqi (y := nI cl) ecl ?_
                refine WR.callV (As := [.int (nI cl)]) (rest := []) cx (c_X6_type l G a AD Yw (nI cl) (ti_g hTI).t (chOk_n (by omega))) gL_types_X6_type rfl hd_X6_type ⟨Nat.le_of_ble_eq_true rfl, Nat.le_of_ble_eq_true rfl⟩ (va_recv hK hP (ci := 5) (q0 := 0) rfl rfl) hK hN hP hD hS (fun _ h => pl_wA0 h) rfl hl.1 rfl (Nat.le_of_ble_eq_true rfl) dL_types_80 ⟨Nat.zero_le _, Nat.zero_le _⟩ (fun H1 locs hP1 hk1 hS => ?_)
                have hP : va_P G.1 vwCl (plC G a AD ((yType Yw (nI cl)).2)) H1 := hP1
                have hD : va_D (wA (plC G a AD Y)) (plC G a AD ((yType Yw (nI cl)).2)) := pl_Dput hD
                generalize H1 = H at hP hS ⊢
                clear hP1 hk1
                obtain ⟨r2, e2, hTL⟩ := t_let hTI (by omega) (by omega) (by omega) hcl1 hcl2
                rw [e2] at hP hD ⊢
                have hP : va_P G.1 vwCl (plC G a AD (yTy Yw (nI cl))) H := hP
                have hD : va_D (wA (plC G a AD Y)) (plC G a AD (yTy Yw (nI cl))) := hD
                refine nv_eqi (y := r2) rfl ?_
                refine lv_istore (lv' := [(4, .int r2), (0, .ref (a 0)), (1, .int g0), (2, .int h0), (3, .int (nI nn)), (5, .int (nI k)), (6, .int (nI (1 + s7))), (7, .int (nI x))]) cx.1 cx.2.1 dL_types_83 hl (by decide) rfl (fun ls hl => ?_)
                have jn85 : ∀ (Y4 : Nat → XS) (ls : Array Slot) (H : Heap) (locs : List Loc), va_P G.1 vwCl (plC G a AD Y4) H → va_D (wA (plC G a AD Y)) (plC G a AD Y4) → va_S (wA (plC G a AD Y)) s.heap H locs → TI Y Y4 k (x + 1) (1 + s7) → lv_has ls 8 [(0, .ref (a 0)), (1, .int g0), (2, .int h0), (3, .int (nI nn)), (5, .int (nI k)), (6, .int (nI (1 + s7))), (7, .int (nI x))] → W p l e ({ frames := 2, cells := 0, slots := 0, locals := 42 } : Room) s m [.ref (a 0), .int g0, .int h0].toArray below meth c H locs 0 0 (MQ below (QL G (plC G a AD Y) (fun v ws1 => ∃ n Y2, v = nI n ∧ 1 ≤ n ∧ n ≤ 3 ∧ TO Y Y2 n ∧ ws1 = plC G a AD Y2)) [.ref (a 0), .int g0, .int h0].toArray s 0 0 (wA (plC G a AD Y))) (F0 m 129 ls []) := by
                  intro Y4 ls H locs hP hD hS hT4 hl
                  refine lv_iinc (v := nI (x + 1)) (lv' := [(7, .int (nI (x + 1))), (0, .ref (a 0)), (1, .int g0), (2, .int h0), (3, .int (nI nn)), (5, .int (nI k)), (6, .int (nI (1 + s7)))]) cx.1 cx.2.1 dL_types_129 hl (k := 6) rfl (show nI x + Int32.ofInt 1 = nI (x + 1) from nI_add x 1) (by decide) rfl (fun ls hl => ?_)
                  refine lv_goto (tgt := 52) cx.1 cx.2.1 dL_types_132 (by decide) ?_
                  exact ih52 (x + 1) Y4 (by omega) (by omega) hT4 _ _ hP hD hS ls (lv_sub hl [1, 2, 3, 4, 5, 6, 0] rfl)
                refine lv_iload cx.1 cx.2.1 dL_types_85 (lv_at hl 7 rfl) ?_
                refine lv_iconst (v := nI 1) cx.1 cx.2.1 dL_types_87 (by decide) ?_
                refine nv_iadd cx (a := x) (b := 1) dL_types_88 ?_
                refine lv_iload cx.1 cx.2.1 dL_types_89 (lv_at hl 6 rfl) ?_
                refine nv_icmp_ge (a := x + 1) (b := 1 + s7) (tgt := 129) cx dL_types_91 (by decide) (by omega) (by omega) (fun c_3 => ?_) (fun c_3 => ?_)
                · exact jn85 (yTy Yw (nI cl)) ls H locs hP hD hS (by first | exact hT5 | exact tl_i hTL) (lv_sub hl [1, 2, 3, 4, 5, 6, 7] rfl)
                · have c91 := c_3
                  refine lv_iload_n cx.1 cx.2.1 dL_types_94 rfl (lv_at hl 3 rfl) ?_
                  refine lv_iload cx.1 cx.2.1 dL_types_95 (lv_at hl 7 rfl) ?_
                  refine lv_iload cx.1 cx.2.1 dL_types_97 (lv_at hl 5 rfl) ?_
                  refine nv_iadd cx (a := x) (b := k) dL_types_99 ?_
                  refine lv_ishr (x := h0) (y := nI (x + k)) cx.1 cx.2.1 dL_types_100 ?_
                  refine lv_bipush (v := nI 7) cx.1 cx.2.1 dL_types_101 (by decide) ?_
                  refine lv_iand (x := h0 >>> ((nI (x + k)) &&& 31)) (y := 7) cx.1 cx.2.1 dL_types_103 ?_
                  refine lv_if_ne (x := (h0 >>> ((nI (x + k)) &&& 31)) &&& 7) (tgt := 129) cx.1 cx.2.1 dL_types_104 (by decide) (fun c_4 => ?_) (fun c_4 => ?_)
                  · exact jn85 (yTy Yw (nI cl)) ls H locs hP hD hS (by first | exact hT5 | exact tl_i hTL) (lv_sub hl [1, 2, 3, 4, 5, 6, 7] rfl)
                  · refine lv_aload_n cx.1 cx.2.1 dL_types_107 rfl (lv_at hl 1 rfl) ?_
                    refine lv_iload_n cx.1 cx.2.1 dL_types_108 rfl (lv_at hl 3 rfl) ?_
                    refine lv_bipush (v := nI 9) cx.1 cx.2.1 dL_types_109 (by decide) ?_
                    refine lv_ishr (x := h0) (y := 9) cx.1 cx.2.1 dL_types_111 ?_
                    refine lv_iconst (v := nI 1) cx.1 cx.2.1 dL_types_112 (by decide) ?_
                    refine lv_iand (x := h0 >>> (9 &&& 31)) (y := 1) cx.1 cx.2.1 dL_types_113 ?_
                    have jn114 : ∀ (mk : Nat) (ls : Array Slot), mk = 46 ∨ mk = 45 → lv_has ls 8 [(4, .int r2), (0, .ref (a 0)), (1, .int g0), (2, .int h0), (3, .int (nI nn)), (5, .int (nI k)), (6, .int (nI (1 + s7))), (7, .int (nI x))] → W p l e ({ frames := 2, cells := 0, slots := 0, locals := 42 } : Room) s m [.ref (a 0), .int g0, .int h0].toArray below meth c H locs 0 0 (MQ below (QL G (plC G a AD Y) (fun v ws1 => ∃ n Y2, v = nI n ∧ 1 ≤ n ∧ n ≤ 3 ∧ TO Y Y2 n ∧ ws1 = plC G a AD Y2)) [.ref (a 0), .int g0, .int h0].toArray s 0 0 (wA (plC G a AD Y))) (F0 m 124 ls [.int (nI mk), .ref (a 0)]) := by
                      intro mk ls hmk hl
                      refine WR.callV (As := [.int (nI mk)]) (rest := []) cx (c_X6_type l G a AD (yTy Yw (nI cl)) (nI mk) (tl_g hTL).t (chOk_n (by omega))) gL_types_X6_type rfl hd_X6_type ⟨Nat.le_of_ble_eq_true rfl, Nat.le_of_ble_eq_true rfl⟩ (va_recv hK hP (ci := 5) (q0 := 0) rfl rfl) hK hN hP hD hS (fun _ h => pl_wA0 h) rfl hl.1 rfl (Nat.le_of_ble_eq_true rfl) dL_types_124 ⟨Nat.zero_le _, Nat.zero_le _⟩ (fun H1 locs hP1 hk1 hS => ?_)
                      have hP : va_P G.1 vwCl (plC G a AD ((yType (yTy Yw (nI cl)) (nI mk)).2)) H1 := hP1
                      have hD : va_D (wA (plC G a AD Y)) (plC G a AD ((yType (yTy Yw (nI cl)) (nI mk)).2)) := pl_Dput hD
                      generalize H1 = H at hP hS ⊢
                      clear hP1 hk1
                      obtain ⟨r3, e3, hT5⟩ := t_mark hTL c91 (by omega) (by omega) hmk
                      rw [e3] at hP hD ⊢
                      have hP : va_P G.1 vwCl (plC G a AD (yTy (yTy Yw (nI cl)) (nI mk))) H := hP
                      have hD : va_D (wA (plC G a AD Y)) (plC G a AD (yTy (yTy Yw (nI cl)) (nI mk))) := hD
                      refine nv_eqi (y := r3) rfl ?_
                      refine lv_istore (lv' := [(4, .int r3), (0, .ref (a 0)), (1, .int g0), (2, .int h0), (3, .int (nI nn)), (5, .int (nI k)), (6, .int (nI (1 + s7))), (7, .int (nI x))]) cx.1 cx.2.1 dL_types_127 hl (by decide) rfl (fun ls hl => ?_)
                      exact jn85 (yTy (yTy Yw (nI cl)) (nI mk)) ls H locs hP hD hS (by first | exact hT5 | exact tl_i hTL) (lv_sub hl [1, 2, 3, 4, 5, 6, 7] rfl)
                    refine lv_if_ne (x := (h0 >>> (9 &&& 31)) &&& 1) (tgt := 122) cx.1 cx.2.1 dL_types_114 (by decide) (fun c_5 => ?_) (fun c_5 => ?_)
                    · refine lv_bipush (v := nI 45) cx.1 cx.2.1 dL_types_122 (by decide) ?_
                      exact jn114 45 ls (by omega) hl
                    · refine lv_bipush (v := nI 46) cx.1 cx.2.1 dL_types_117 (by decide) ?_
                      refine lv_goto (tgt := 124) cx.1 cx.2.1 dL_types_119 (by decide) ?_
                      exact jn114 46 ls (by omega) hl
          exact lp52 _ 0 Y2 (Nat.lt_succ_self _) (by omega) (ti_0 hN2 (by omega)) H locs hP hD hS ls (lv_sub hl [2, 3, 4, 5, 6, 1, 0] rfl)
        refine nv_if_le (a := k) (tgt := 36) cx dL_types_25 (by decide) (by omega) (fun c_6 => ?_) (fun c_6 => ?_)
        · exact jn25 Yv ls H locs hP hD hS (by first | exact hN2 | exact tn_0 hT c_6) hl
        · have c25 := c_6
          refine lv_aload_n cx.1 cx.2.1 dL_types_28 rfl (lv_at hl 0 rfl) ?_
          refine lv_bipush (v := nI 59) cx.1 cx.2.1 dL_types_29 (by decide) ?_
          refine WR.callV (As := [.int 59]) (rest := []) cx (c_X6_type l G a AD Yv 59 (to_g hT).t (chOk_n (q := 59) (by decide))) gL_types_X6_type rfl hd_X6_type ⟨Nat.le_of_ble_eq_true rfl, Nat.le_of_ble_eq_true rfl⟩ (va_recv hK hP (ci := 5) (q0 := 0) rfl rfl) hK hN hP hD hS (fun _ h => pl_wA0 h) rfl hl.1 rfl (Nat.le_of_ble_eq_true rfl) dL_types_31 ⟨Nat.zero_le _, Nat.zero_le _⟩ (fun H1 locs hP1 hk1 hS => ?_)
          have hP : va_P G.1 vwCl (plC G a AD ((yType Yv 59).2)) H1 := hP1
          have hD : va_D (wA (plC G a AD Y)) (plC G a AD ((yType Yv 59).2)) := pl_Dput hD
          generalize H1 = H at hP hS ⊢
          clear hP1 hk1
          obtain ⟨r1, e1, hN2⟩ := t_sep hT c25 (by omega)
          rw [e1] at hP hD ⊢
          have hP : va_P G.1 vwCl (plC G a AD (yTy Yv 59)) H := hP
          have hD : va_D (wA (plC G a AD Y)) (plC G a AD (yTy Yv 59)) := hD
          refine nv_eqi (y := r1) rfl ?_
          refine lv_istore (lv' := [(4, .int r1), (0, .ref (a 0)), (1, .int g0), (2, .int h0), (3, .int (nI nn)), (5, .int (nI k))]) cx.1 cx.2.1 dL_types_34 hl (by decide) rfl (fun ls hl => ?_)
          exact jn25 (yTy Yv 59) ls H locs hP hD hS (by first | exact hN2 | exact tn_0 hT c_6) (lv_sub hl [1, 2, 3, 4, 5] rfl)
  exact lp17 _ 0 Yc (Nat.lt_succ_self _) (by omega) hTc H locs hP hD hS ls (lv_sub hl [3, 4, 5, 2, 0] rfl)
