/-! ===== specs_l7: laid by program (wip/p28/lay28.py) ===== -/
set_option maxHeartbeats 4000000 in
set_option maxRecDepth 100000 in
theorem c_L_names (l : Launch) (G : GG) (a : Nat → Nat) (AD : Nat → Nat → Nat) (Y : Nat → XS) (so : Nat) (g0 : Int32) (h0 : Int32) (hG : Gd Y) (hso : so < 15) : LW l yL_names wsL_names 7 166 G (plC G a AD Y) [.ref (a 0), .int (nI so), .int g0, .int h0] (fun v ws1 => v = 1 ∧ ∃ Y2, Sp Y Y2 ∧ ws1 = plC G a AD Y2) := by
  refine LW.start (cc := cL_names) (maxL := 12) (ret := (some .boolean)) (by decide) rfl (Nat.le_of_ble_eq_true rfl) ?_
  intro p e s m below meth c ls cx hr hlocks hK hN hP hD hS hl
  have cx : CallFix p m c cL_names 12 s [.ref (a 0), .int (nI so), .int g0, .int h0].toArray wsL_names RL := cx
  have hl : lv_has ls 12 [(0, .ref (a 0)), (1, .int (nI so)), (2, .int g0), (3, .int h0)] := hl
  have hok := hG.ok
  have hn20 := hok.n20
  have hp16 := hok.p16
  have hv := hG.v
  obtain ⟨f, hRl⟩ := hG.r
  refine lv_aload_n cx.1 cx.2.1 dL_names_0 rfl (lv_at hl 0 rfl) ?_
  refine lv_iconst (v := nI 4) cx.1 cx.2.1 dL_names_1 (by decide) ?_
  refine RO.callV (As := [.int 4]) (rest := []) cx (c_X6_count l G a AD Y 4 hok) gL_names_X6_count rfl hd_X6_count ⟨Nat.le_of_ble_eq_true rfl, Nat.le_of_ble_eq_true rfl⟩ (va_recv hK hP (ci := 5) (q0 := 0) rfl rfl) hK hN hP rfl hl.1 rfl (Nat.le_of_ble_eq_true rfl) dL_names_2 ⟨Nat.zero_le _, Nat.zero_le _⟩ ?_
  refine nv_eqi (y := nI (xn (Y 5))) (ct4 hok) ?_
  refine lv_istore (lv' := [(4, .int (nI (xn (Y 5)))), (0, .ref (a 0)), (1, .int (nI so)), (2, .int g0), (3, .int h0)]) cx.1 cx.2.1 dL_names_5 hl (by decide) rfl (fun ls hl => ?_)
  refine lv_iload cx.1 cx.2.1 dL_names_7 (lv_at hl 0 rfl) ?_
  have jn9 : ∀ (ls : Array Slot), lv_has ls 12 [(4, .int (nI (xn (Y 5)))), (0, .ref (a 0)), (1, .int (nI so)), (2, .int g0), (3, .int h0)] → W p l e ({ frames := 7, cells := 0, slots := 0, locals := 166 } : Room) s m [.ref (a 0), .int (nI so), .int g0, .int h0].toArray below meth c s.heap [] 0 0 (MQ below (QL G (plC G a AD Y) (fun v ws1 => v = 1 ∧ ∃ Y2, Sp Y Y2 ∧ ws1 = plC G a AD Y2)) [.ref (a 0), .int (nI so), .int g0, .int h0].toArray s 0 0 (wA (plC G a AD Y))) (F0 m 18 ls []) := by
    intro  ls  hl
    refine lv_aload_n cx.1 cx.2.1 dL_names_18 rfl (lv_at hl 1 rfl) ?_
    refine lv_iload_n cx.1 cx.2.1 dL_names_19 rfl (lv_at hl 3 rfl) ?_
    refine lv_iload_n cx.1 cx.2.1 dL_names_20 rfl (lv_at hl 4 rfl) ?_
    refine LW.callS (As := [.ref (a 0), .int g0, .int h0]) (rest := []) cx (c_L_types l G a AD Y g0 h0 hG) gL_names_L_types rfl hd_L_types ⟨Nat.le_of_ble_eq_true rfl, Nat.le_of_ble_eq_true rfl⟩ hK hN hP hD hS (fun _ h => pl_wA0 h) rfl hl.1 rfl (Nat.le_of_ble_eq_true rfl) dL_names_21 ⟨Nat.le_of_ble_eq_true rfl, Nat.le_of_ble_eq_true rfl⟩ (fun v9 w9 H1 locs hq9 hP1 hk1 hS => ?_)
    obtain ⟨nn, Y2, rfl, hn1, hn3, hTO, rfl⟩ := hq9
    have hP : va_P G.1 vwCl (plC G a AD Y2) H1 := hP1
    have hD : va_D (wA (plC G a AD Y)) (plC G a AD Y2) := pl_Dput hD
    generalize H1 = H at hP hS ⊢
    clear hP1 hk1
    refine lv_istore (lv' := [(5, .int (nI nn)), (4, .int (nI (xn (Y 5)))), (0, .ref (a 0)), (1, .int (nI so)), (2, .int g0), (3, .int h0)]) cx.1 cx.2.1 dL_names_24 hl (by decide) rfl (fun ls hl => ?_)
    refine lv_aload_n cx.1 cx.2.1 dL_names_26 rfl (lv_at hl 2 rfl) ?_
    refine WR.callV (As := []) (rest := []) cx (c_X6_readNames l G a AD Y2 (to_g hTO).t (to_g hTO).h (to_g hTO).all) gL_names_X6_readNames rfl hd_X6_readNames ⟨Nat.le_of_ble_eq_true rfl, Nat.le_of_ble_eq_true rfl⟩ (va_recv hK hP (ci := 5) (q0 := 0) rfl rfl) hK hN hP hD hS (fun _ h => pl_wA0 h) rfl hl.1 rfl (Nat.le_of_ble_eq_true rfl) dL_names_27 ⟨Nat.zero_le _, Nat.zero_le _⟩ (fun H1 locs hP1 hk1 hS => ?_)
    have hP : va_P G.1 vwCl (plC G a AD ((yReadN Y2).2)) H1 := hP1
    have hD : va_D (wA (plC G a AD Y)) (plC G a AD ((yReadN Y2).2)) := pl_Dput hD
    generalize H1 = H at hP hS ⊢
    clear hP1 hk1
    obtain ⟨Y1, e1, sp1⟩ := f_read (by omega) hTO
    rw [e1] at hP hD ⊢
    have hP : va_P G.1 vwCl (plC G a AD Y1) H := hP
    have hD : va_D (wA (plC G a AD Y)) (plC G a AD Y1) := hD
    refine nv_eqi (y := dT (Y 5) nn) rfl ?_
    refine lv_iload cx.1 cx.2.1 dL_names_30 (lv_at hl 1 rfl) ?_
    refine lv_iload cx.1 cx.2.1 dL_names_32 (lv_at hl 0 rfl) ?_
    refine nv_iadd cx (a := xn (Y 5)) (b := nn) dL_names_34 ?_
    refine lv_bipush (v := nI 20) cx.1 cx.2.1 dL_names_35 (by decide) ?_
    have jn37 : ∀ (ls : Array Slot), lv_has ls 12 [(5, .int (nI nn)), (4, .int (nI (xn (Y 5)))), (0, .ref (a 0)), (1, .int (nI so)), (2, .int g0), (3, .int h0)] → W p l e ({ frames := 7, cells := 0, slots := 0, locals := 166 } : Room) s m [.ref (a 0), .int (nI so), .int g0, .int h0].toArray below meth c H locs 0 0 (MQ below (QL G (plC G a AD Y) (fun v ws1 => v = 1 ∧ ∃ Y2, Sp Y Y2 ∧ ws1 = plC G a AD Y2)) [.ref (a 0), .int (nI so), .int g0, .int h0].toArray s 0 0 (wA (plC G a AD Y))) (F0 m 48 ls [.int (dT (Y 5) nn), .int (dT (Y 5) nn)]) := by
      intro  ls  hl
      refine lv_icmp_ne (x := dT (Y 5) nn) (y := dT (Y 5) nn) (tgt := 55) cx.1 cx.2.1 dL_names_48 (by decide) (fun c_1 => ?_) (fun c_1 => ?_)
      · exact absurd rfl c_1
      · refine lv_iconst (v := nI 1) cx.1 cx.2.1 dL_names_51 (by decide) ?_
        refine lv_goto (tgt := 56) cx.1 cx.2.1 dL_names_52 (by decide) ?_
        exact LW.retz (x := nI 1) (ws1 := plC G a AD Y1) cx hr hlocks dL_names_56 (by decide) ⟨rfl, _, sp1, rfl⟩ hP hS
    refine nv_icmp_le (a := xn (Y 5) + nn) (b := 20) (tgt := 46) cx dL_names_37 (by decide) (by omega) (by omega) (fun c_2 => ?_) (fun c_2 => ?_)
    · refine lv_iload cx.1 cx.2.1 dL_names_46 (lv_at hl 0 rfl) ?_
      refine nv_eqi (y := dT (Y 5) nn) (by first | exact (if_pos c_2).symm | exact (if_neg (by omega)).symm) ?_
      exact jn37  ls  hl
    · refine lv_sipush (v := (-1003)) cx.1 cx.2.1 dL_names_40 (by decide) ?_
      refine lv_goto (tgt := 48) cx.1 cx.2.1 dL_names_43 (by decide) ?_
      refine nv_eqi (y := dT (Y 5) nn) (by first | exact (if_pos c_2).symm | exact (if_neg (by omega)).symm) ?_
      exact jn37  ls  hl
  refine nv_if_eq (a := xn (Y 5)) (tgt := 18) cx dL_names_9 (by decide) (by omega) (fun c_3 => ?_) (fun c_3 => ?_)
  · exact jn9  ls  hl
  · have hmany : 0 < xn (Y 5) := Nat.pos_of_ne_zero c_3
    refine lv_iload_n cx.1 cx.2.1 dL_names_12 rfl (lv_at hl 2 rfl) ?_
    refine lv_bipush (v := nI 8) cx.1 cx.2.1 dL_names_13 (by decide) ?_
    refine nv_icmp_ge (a := so) (b := 8) (tgt := 57) cx dL_names_15 (by decide) (by omega) (by omega) (fun c_4 => ?_) (fun c_4 => ?_)
    · refine lv_iload_n cx.1 cx.2.1 dL_names_57 rfl (lv_at hl 3 rfl) ?_
      refine lv_iload cx.1 cx.2.1 dL_names_58 (lv_at hl 0 rfl) ?_
      refine RO.callS (As := [.int g0, .int (nI (xn (Y 5)))]) (rest := []) cx (c_L_low l G g0 (xn (Y 5)) (by omega) (by omega)) gL_names_L_low rfl hd_L_low ⟨Nat.le_of_ble_eq_true rfl, Nat.le_of_ble_eq_true rfl⟩ hK hN va_P.nil rfl hl.1 rfl (Nat.le_of_ble_eq_true rfl) dL_names_60 ⟨Nat.zero_le _, Nat.zero_le _⟩ ?_
      obtain ⟨k, hk, ek⟩ : ∃ k, k < xn (Y 5) ∧ nI (lowN g0 (xn (Y 5))) = nI k := ⟨_, lowN_lt _ hmany, rfl⟩
      refine nv_eqi (y := nI k) ek ?_
      refine lv_istore (lv' := [(5, .int (nI k)), (4, .int (nI (xn (Y 5)))), (0, .ref (a 0)), (1, .int (nI so)), (2, .int g0), (3, .int h0)]) cx.1 cx.2.1 dL_names_63 hl (by decide) rfl (fun ls hl => ?_)
      refine lv_iload_n cx.1 cx.2.1 dL_names_65 rfl (lv_at hl 5 rfl) ?_
      refine lv_iload cx.1 cx.2.1 dL_names_66 (lv_at hl 1 rfl) ?_
      refine RO.callS (As := [.int h0, .int (nI (xn (Y 5)))]) (rest := []) cx (c_L_low l G h0 (xn (Y 5)) (by omega) (by omega)) gL_names_L_low rfl hd_L_low ⟨Nat.le_of_ble_eq_true rfl, Nat.le_of_ble_eq_true rfl⟩ hK hN va_P.nil rfl hl.1 rfl (Nat.le_of_ble_eq_true rfl) dL_names_68 ⟨Nat.zero_le _, Nat.zero_le _⟩ ?_
      obtain ⟨j, hj, ej⟩ : ∃ j, j < xn (Y 5) ∧ nI (lowN h0 (xn (Y 5))) = nI j := ⟨_, lowN_lt _ hmany, rfl⟩
      refine nv_eqi (y := nI j) ej ?_
      refine lv_istore (lv' := [(6, .int (nI j)), (5, .int (nI k)), (4, .int (nI (xn (Y 5)))), (0, .ref (a 0)), (1, .int (nI so)), (2, .int g0), (3, .int h0)]) cx.1 cx.2.1 dL_names_71 hl (by decide) rfl (fun ls hl => ?_)
      refine lv_aload_n cx.1 cx.2.1 dL_names_73 rfl (lv_at hl 3 rfl) ?_
      refine lv_iload cx.1 cx.2.1 dL_names_74 (lv_at hl 1 rfl) ?_
      refine lv_iconst (v := nI 2) cx.1 cx.2.1 dL_names_76 (by decide) ?_
      refine RO.callV (As := [.int (nI k), .int 2]) (rest := []) cx (c_X6_name l G a AD Y (nI k) 2 hok) gL_names_X6_name rfl hd_X6_name ⟨Nat.le_of_ble_eq_true rfl, Nat.le_of_ble_eq_true rfl⟩ (va_recv hK hP (ci := 5) (q0 := 0) rfl rfl) hK hN hP rfl hl.1 rfl (Nat.le_of_ble_eq_true rfl) dL_names_77 ⟨Nat.zero_le _, Nat.zero_le _⟩ ?_
      refine nv_eqi (y := b2i (xEb (Y 5) k)) (nm2 hok (by omega)) ?_
      refine lv_iconst (v := nI 1) cx.1 cx.2.1 dL_names_80 (by decide) ?_
      have jn81 : ∀ (ls : Array Slot), lv_has ls 12 [(6, .int (nI j)), (5, .int (nI k)), (4, .int (nI (xn (Y 5)))), (0, .ref (a 0)), (1, .int (nI so)), (2, .int g0), (3, .int h0)] → W p l e ({ frames := 7, cells := 0, slots := 0, locals := 166 } : Room) s m [.ref (a 0), .int (nI so), .int g0, .int h0].toArray below meth c s.heap [] 0 0 (MQ below (QL G (plC G a AD Y) (fun v ws1 => v = 1 ∧ ∃ Y2, Sp Y Y2 ∧ ws1 = plC G a AD Y2)) [.ref (a 0), .int (nI so), .int g0, .int h0].toArray s 0 0 (wA (plC G a AD Y))) (F0 m 89 ls [.int (b2i (xEb (Y 5) k))]) := by
        intro  ls  hl
        refine lv_istore (lv' := [(7, .int (b2i (xEb (Y 5) k))), (6, .int (nI j)), (5, .int (nI k)), (4, .int (nI (xn (Y 5)))), (0, .ref (a 0)), (1, .int (nI so)), (2, .int g0), (3, .int h0)]) cx.1 cx.2.1 dL_names_89 hl (by decide) rfl (fun ls hl => ?_)
        refine lv_iload_n cx.1 cx.2.1 dL_names_91 rfl (lv_at hl 5 rfl) ?_
        refine lv_bipush (v := nI 8) cx.1 cx.2.1 dL_names_92 (by decide) ?_
        refine nv_icmp_ne (a := so) (b := 8) (tgt := 180) cx dL_names_94 (by decide) (by omega) (by omega) (fun c_5 => ?_) (fun c_5 => ?_)
        · refine lv_iload_n cx.1 cx.2.1 dL_names_180 rfl (lv_at hl 5 rfl) ?_
          refine lv_bipush (v := nI 9) cx.1 cx.2.1 dL_names_181 (by decide) ?_
          refine nv_icmp_ne (a := so) (b := 9) (tgt := 298) cx dL_names_183 (by decide) (by omega) (by omega) (fun c_6 => ?_) (fun c_6 => ?_)
          · refine lv_iload_n cx.1 cx.2.1 dL_names_298 rfl (lv_at hl 5 rfl) ?_
            refine lv_bipush (v := nI 13) cx.1 cx.2.1 dL_names_299 (by decide) ?_
            refine nv_icmp_ge (a := so) (b := 13) (tgt := 418) cx dL_names_301 (by decide) (by omega) (by omega) (fun c_7 => ?_) (fun c_7 => ?_)
            · refine lv_iconst (v := nI 0) cx.1 cx.2.1 dL_names_418 (by decide) ?_
              refine lv_istore (lv' := [(8, .int (nI 0)), (7, .int (b2i (xEb (Y 5) k))), (6, .int (nI j)), (5, .int (nI k)), (4, .int (nI (xn (Y 5)))), (0, .ref (a 0)), (1, .int (nI so)), (2, .int g0), (3, .int h0)]) cx.1 cx.2.1 dL_names_419 hl (by decide) rfl (fun ls hl => ?_)
              refine lv_iconst (v := nI 0) cx.1 cx.2.1 dL_names_421 (by decide) ?_
              refine lv_istore (lv' := [(9, .int (nI 0)), (8, .int (nI 0)), (7, .int (b2i (xEb (Y 5) k))), (6, .int (nI j)), (5, .int (nI k)), (4, .int (nI (xn (Y 5)))), (0, .ref (a 0)), (1, .int (nI so)), (2, .int g0), (3, .int h0)]) cx.1 cx.2.1 dL_names_422 hl (by decide) rfl (fun ls hl => ?_)
              have lp424 : ∀ (r : Nat) (x : Nat) (hr9 : xn (Y 5) - x < r) (hi : x ≤ xn (Y 5)) (ls : Array Slot), lv_has ls 12 [(0, .ref (a 0)), (1, .int (nI so)), (2, .int g0), (3, .int h0), (4, .int (nI (xn (Y 5)))), (5, .int (nI k)), (6, .int (nI j)), (7, .int (b2i (xEb (Y 5) k))), (8, .int (nI (cF (Y 5) (xSize (Y 5)) x))), (9, .int (nI x))] → W p l e ({ frames := 7, cells := 0, slots := 0, locals := 166 } : Room) s m [.ref (a 0), .int (nI so), .int g0, .int h0].toArray below meth c s.heap [] 0 0 (MQ below (QL G (plC G a AD Y) (fun v ws1 => v = 1 ∧ ∃ Y2, Sp Y Y2 ∧ ws1 = plC G a AD Y2)) [.ref (a 0), .int (nI so), .int g0, .int h0].toArray s 0 0 (wA (plC G a AD Y))) (F0 m 424 ls []) := by
                intro r
                induction r with
                | zero => intro x hr9; exact absurd hr9 (Nat.not_lt_zero _)
                | succ r ih424 =>
                  intro x hr9 hi ls hl
                  refine lv_iload cx.1 cx.2.1 dL_names_424 (lv_at hl 9 rfl) ?_
                  refine lv_iload cx.1 cx.2.1 dL_names_426 (lv_at hl 4 rfl) ?_
                  refine nv_icmp_ge (a := x) (b := xn (Y 5)) (tgt := 469) cx dL_names_428 (by decide) (by omega) (by omega) (fun c_8 => ?_) (fun c_8 => ?_)
                  · have ex : x = xn (Y 5) := by omega
                    subst ex
                    have hcf := cF_le (Y 5) (xSize (Y 5)) (xn (Y 5))
                    refine lv_aload_n cx.1 cx.2.1 dL_names_469 rfl (lv_at hl 0 rfl) ?_
                    refine lv_iconst (v := nI 5) cx.1 cx.2.1 dL_names_470 (by decide) ?_
                    refine RO.callV (As := [.int 5]) (rest := []) cx (c_X6_count l G a AD Y 5 hok) gL_names_X6_count rfl hd_X6_count ⟨Nat.le_of_ble_eq_true rfl, Nat.le_of_ble_eq_true rfl⟩ (va_recv hK hP (ci := 5) (q0 := 0) rfl rfl) hK hN hP rfl hl.1 rfl (Nat.le_of_ble_eq_true rfl) dL_names_471 ⟨Nat.zero_le _, Nat.zero_le _⟩ ?_
                    refine nv_eqi (y := bitc (Y 5 5 6)) (ct5 Y) ?_
                    refine lv_istore (lv' := [(9, .int (bitc (Y 5 5 6))), (0, .ref (a 0)), (1, .int (nI so)), (2, .int g0), (3, .int h0), (4, .int (nI (xn (Y 5)))), (5, .int (nI k)), (6, .int (nI j)), (7, .int (b2i (xEb (Y 5) k))), (8, .int (nI (cF (Y 5) (xSize (Y 5)) (xn (Y 5)))))]) cx.1 cx.2.1 dL_names_474 hl (by decide) rfl (fun ls hl => ?_)
                    refine lv_aload_n cx.1 cx.2.1 dL_names_476 rfl (lv_at hl 1 rfl) ?_
                    refine WR.callV (As := []) (rest := []) cx (c_X6_engraveAll l G a AD Y hG.h hG.all) gL_names_X6_engraveAll rfl hd_X6_engraveAll ⟨Nat.le_of_ble_eq_true rfl, Nat.le_of_ble_eq_true rfl⟩ (va_recv hK hP (ci := 5) (q0 := 0) rfl rfl) hK hN hP hD hS (fun _ h => pl_wA0 h) rfl hl.1 rfl (Nat.le_of_ble_eq_true rfl) dL_names_477 ⟨Nat.zero_le _, Nat.zero_le _⟩ (fun H1 locs hP1 hk1 hS => ?_)
                    have hP : va_P G.1 vwCl (plC G a AD ((yEngA Y).2)) H1 := hP1
                    have hD : va_D (wA (plC G a AD Y)) (plC G a AD ((yEngA Y).2)) := pl_Dput hD
                    generalize H1 = H at hP hS ⊢
                    clear hP1 hk1
                    obtain ⟨Y1, e1, sp1, f1⟩ := f_engA hG
                    rw [e1] at hP hD ⊢
                    have hP : va_P G.1 vwCl (plC G a AD Y1) H := hP
                    have hD : va_D (wA (plC G a AD Y)) (plC G a AD Y1) := hD
                    refine nv_eqi (y := dG (Y 5)) rfl ?_
                    refine lv_iload cx.1 cx.2.1 dL_names_480 (lv_at hl 9 rfl) ?_
                    have jn482 : ∀ (ls : Array Slot), lv_has ls 12 [(9, .int (bitc (Y 5 5 6))), (0, .ref (a 0)), (1, .int (nI so)), (2, .int g0), (3, .int h0), (4, .int (nI (xn (Y 5)))), (5, .int (nI k)), (6, .int (nI j)), (7, .int (b2i (xEb (Y 5) k))), (8, .int (nI (cF (Y 5) (xSize (Y 5)) (xn (Y 5)))))] → W p l e ({ frames := 7, cells := 0, slots := 0, locals := 166 } : Room) s m [.ref (a 0), .int (nI so), .int g0, .int h0].toArray below meth c H locs 0 0 (MQ below (QL G (plC G a AD Y) (fun v ws1 => v = 1 ∧ ∃ Y2, Sp Y Y2 ∧ ws1 = plC G a AD Y2)) [.ref (a 0), .int (nI so), .int g0, .int h0].toArray s 0 0 (wA (plC G a AD Y))) (F0 m 493 ls [.int (dG (Y 5)), .int (dG (Y 5))]) := by
                      intro  ls  hl
                      refine lv_icmp_ne (x := dG (Y 5)) (y := dG (Y 5)) (tgt := 513) cx.1 cx.2.1 dL_names_493 (by decide) (fun c_9 => ?_) (fun c_9 => ?_)
                      · exact absurd rfl c_9
                      · refine lv_aload_n cx.1 cx.2.1 dL_names_496 rfl (lv_at hl 1 rfl) ?_
                        refine lv_iconst (v := nI 5) cx.1 cx.2.1 dL_names_497 (by decide) ?_
                        refine RO.callV (As := [.int 5]) (rest := []) cx (c_X6_count l G a AD Y1 5 sp1.1.ok) gL_names_X6_count rfl hd_X6_count ⟨Nat.le_of_ble_eq_true rfl, Nat.le_of_ble_eq_true rfl⟩ (va_recv hK hP (ci := 5) (q0 := 0) rfl rfl) hK hN hP rfl hl.1 rfl (Nat.le_of_ble_eq_true rfl) dL_names_498 ⟨Nat.zero_le _, Nat.zero_le _⟩ ?_
                        refine nv_eqi (y := bitc (Y1 5 5 6)) (ct5 Y1) ?_
                        refine lv_iload cx.1 cx.2.1 dL_names_501 (lv_at hl 0 rfl) ?_
                        refine lv_iload cx.1 cx.2.1 dL_names_503 (lv_at hl 9 rfl) ?_
                        refine lv_iadd (x := bitc (Y 5 5 6)) (y := nI (cF (Y 5) (xSize (Y 5)) (xn (Y 5)))) cx.1 cx.2.1 dL_names_505 ?_
                        refine lv_icmp_ne (x := bitc (Y1 5 5 6)) (y := (bitc (Y 5 5 6)) + (nI (cF (Y 5) (xSize (Y 5)) (xn (Y 5))))) (tgt := 513) cx.1 cx.2.1 dL_names_506 (by decide) (fun c_10 => ?_) (fun c_10 => ?_)
                        · exact absurd f1 c_10
                        · refine lv_iconst (v := nI 1) cx.1 cx.2.1 dL_names_509 (by decide) ?_
                          refine lv_goto (tgt := 514) cx.1 cx.2.1 dL_names_510 (by decide) ?_
                          exact LW.retz (x := nI 1) (ws1 := plC G a AD Y1) cx hr hlocks dL_names_514 (by decide) ⟨rfl, _, sp1, rfl⟩ hP hS
                    refine nv_if_ne (a := cF (Y 5) (xSize (Y 5)) (xn (Y 5))) (tgt := 491) cx dL_names_482 (by decide) (by omega) (fun c_11 => ?_) (fun c_11 => ?_)
                    · refine lv_iload cx.1 cx.2.1 dL_names_491 (lv_at hl 9 rfl) ?_
                      refine nv_eqi (y := dG (Y 5)) (by first | exact (if_pos c_11).symm | exact (if_neg c_11).symm) ?_
                      exact jn482  ls  hl
                    · refine lv_sipush (v := (-1005)) cx.1 cx.2.1 dL_names_485 (by decide) ?_
                      refine lv_goto (tgt := 493) cx.1 cx.2.1 dL_names_488 (by decide) ?_
                      refine nv_eqi (y := dG (Y 5)) (by first | exact (if_pos c_11).symm | exact (if_neg c_11).symm) ?_
                      exact jn482  ls  hl
                  · refine lv_iload cx.1 cx.2.1 dL_names_431 (lv_at hl 8 rfl) ?_
                    refine lv_aload_n cx.1 cx.2.1 dL_names_433 rfl (lv_at hl 0 rfl) ?_
                    refine lv_iload cx.1 cx.2.1 dL_names_434 (lv_at hl 9 rfl) ?_
                    refine lv_iconst (v := nI 2) cx.1 cx.2.1 dL_names_436 (by decide) ?_
                    refine RO.callV (As := [.int (nI x), .int 2]) (rest := [.int (nI (cF (Y 5) (xSize (Y 5)) x))]) cx (c_X6_name l G a AD Y (nI x) 2 hok) gL_names_X6_name rfl hd_X6_name ⟨Nat.le_of_ble_eq_true rfl, Nat.le_of_ble_eq_true rfl⟩ (va_recv hK hP (ci := 5) (q0 := 0) rfl rfl) hK hN hP rfl hl.1 rfl (Nat.le_of_ble_eq_true rfl) dL_names_437 ⟨Nat.zero_le _, Nat.zero_le _⟩ ?_
                    refine nv_eqi (y := b2i (xEb (Y 5) x)) (nm2 hok (by omega)) ?_
                    have jn440 : ∀ (ls : Array Slot), lv_has ls 12 [(0, .ref (a 0)), (1, .int (nI so)), (2, .int g0), (3, .int h0), (4, .int (nI (xn (Y 5)))), (5, .int (nI k)), (6, .int (nI j)), (7, .int (b2i (xEb (Y 5) k))), (8, .int (nI (cF (Y 5) (xSize (Y 5)) x))), (9, .int (nI x))] → W p l e ({ frames := 7, cells := 0, slots := 0, locals := 166 } : Room) s m [.ref (a 0), .int (nI so), .int g0, .int h0].toArray below meth c s.heap [] 0 0 (MQ below (QL G (plC G a AD Y) (fun v ws1 => v = 1 ∧ ∃ Y2, Sp Y Y2 ∧ ws1 = plC G a AD Y2)) [.ref (a 0), .int (nI so), .int g0, .int h0].toArray s 0 0 (wA (plC G a AD Y))) (F0 m 460 ls [.int (nI (if xEb (Y 5) x = false ∧ xFits (Y 5) x (xSize (Y 5)) = true then 1 else 0)), .int (nI (cF (Y 5) (xSize (Y 5)) x))]) := by
                      intro  ls  hl
                      refine nv_iadd cx (a := cF (Y 5) (xSize (Y 5)) x) (b := (if xEb (Y 5) x = false ∧ xFits (Y 5) x (xSize (Y 5)) = true then 1 else 0)) dL_names_460 ?_
                      refine lv_istore (lv' := [(8, .int (nI (cF (Y 5) (xSize (Y 5)) x + (if xEb (Y 5) x = false ∧ xFits (Y 5) x (xSize (Y 5)) = true then 1 else 0)))), (0, .ref (a 0)), (1, .int (nI so)), (2, .int g0), (3, .int h0), (4, .int (nI (xn (Y 5)))), (5, .int (nI k)), (6, .int (nI j)), (7, .int (b2i (xEb (Y 5) k))), (9, .int (nI x))]) cx.1 cx.2.1 dL_names_461 hl (by decide) rfl (fun ls hl => ?_)
                      refine lv_iinc (v := nI (x + 1)) (lv' := [(9, .int (nI (x + 1))), (8, .int (nI (cF (Y 5) (xSize (Y 5)) x + (if xEb (Y 5) x = false ∧ xFits (Y 5) x (xSize (Y 5)) = true then 1 else 0)))), (0, .ref (a 0)), (1, .int (nI so)), (2, .int g0), (3, .int h0), (4, .int (nI (xn (Y 5)))), (5, .int (nI k)), (6, .int (nI j)), (7, .int (b2i (xEb (Y 5) k)))]) cx.1 cx.2.1 dL_names_463 hl (k := 9) rfl (show nI x + Int32.ofInt 1 = nI (x + 1) from nI_add x 1) (by decide) rfl (fun ls hl => ?_)
                      refine lv_goto (tgt := 424) cx.1 cx.2.1 dL_names_466 (by decide) ?_
                      exact ih424 (x + 1) (by omega) (by omega) ls (lv_sub hl [2, 3, 4, 5, 6, 7, 8, 9, 1, 0] rfl)
                    refine nv_ifnz (b := xEb (Y 5) x) (tgt := 459) cx dL_names_440 (by decide) (fun c_12 => ?_) (fun c_12 => ?_)
                    · refine lv_iconst (v := nI 0) cx.1 cx.2.1 dL_names_459 (by decide) ?_
                      refine nv_eqi (y := nI (if xEb (Y 5) x = false ∧ xFits (Y 5) x (xSize (Y 5)) = true then 1 else 0)) (by first | exact e01_1 c440 c_12 | exact e01_2 c_12 | exact e01_3 c_12) ?_
                      exact jn440  ls  hl
                    · have c440 := c_12
                      refine lv_aload_n cx.1 cx.2.1 dL_names_443 rfl (lv_at hl 0 rfl) ?_
                      refine lv_iload cx.1 cx.2.1 dL_names_444 (lv_at hl 9 rfl) ?_
                      refine lv_bipush (v := nI 7) cx.1 cx.2.1 dL_names_446 (by decide) ?_
                      refine RO.callV (As := [.int (nI x), .int 7]) (rest := [.int (nI (cF (Y 5) (xSize (Y 5)) x))]) cx (c_X6_name l G a AD Y (nI x) 7 hok) gL_names_X6_name rfl hd_X6_name ⟨Nat.le_of_ble_eq_true rfl, Nat.le_of_ble_eq_true rfl⟩ (va_recv hK hP (ci := 5) (q0 := 0) rfl rfl) hK hN hP rfl hl.1 rfl (Nat.le_of_ble_eq_true rfl) dL_names_448 ⟨Nat.zero_le _, Nat.zero_le _⟩ ?_
                      refine nv_eqi (y := b2i (xFits (Y 5) x (xSize (Y 5)))) (nm7 hok (by omega)) ?_
                      refine lv_iconst (v := nI 1) cx.1 cx.2.1 dL_names_451 (by decide) ?_
                      refine lv_icmp_ne (x := b2i (xFits (Y 5) x (xSize (Y 5)))) (y := 1) (tgt := 459) cx.1 cx.2.1 dL_names_452 (by decide) (fun c_13 => ?_) (fun c_13 => ?_)
                      · refine lv_iconst (v := nI 0) cx.1 cx.2.1 dL_names_459 (by decide) ?_
                        refine nv_eqi (y := nI (if xEb (Y 5) x = false ∧ xFits (Y 5) x (xSize (Y 5)) = true then 1 else 0)) (by first | exact e01_1 c440 c_13 | exact e01_2 c_13 | exact e01_3 c_13) ?_
                        exact jn440  ls  hl
                      · refine lv_iconst (v := nI 1) cx.1 cx.2.1 dL_names_455 (by decide) ?_
                        refine lv_goto (tgt := 460) cx.1 cx.2.1 dL_names_456 (by decide) ?_
                        refine nv_eqi (y := nI (if xEb (Y 5) x = false ∧ xFits (Y 5) x (xSize (Y 5)) = true then 1 else 0)) (by first | exact e01_1 c440 c_13 | exact e01_2 c_13 | exact e01_3 c_13) ?_
                        exact jn440  ls  hl
              exact lp424 _ 0 (Nat.lt_succ_self _) (by omega) ls (lv_sub hl [6, 7, 8, 9, 5, 4, 3, 2, 1, 0] rfl)
            · refine lv_aload_n cx.1 cx.2.1 dL_names_304 rfl (lv_at hl 4 rfl) ?_
              refine lv_iload cx.1 cx.2.1 dL_names_305 (lv_at hl 2 rfl) ?_
              refine lv_bipush (v := nI 7) cx.1 cx.2.1 dL_names_307 (by decide) ?_
              refine RO.callV (As := [.int (nI k), .int 7]) (rest := []) cx (c_X6_name l G a AD Y (nI k) 7 hok) gL_names_X6_name rfl hd_X6_name ⟨Nat.le_of_ble_eq_true rfl, Nat.le_of_ble_eq_true rfl⟩ (va_recv hK hP (ci := 5) (q0 := 0) rfl rfl) hK hN hP rfl hl.1 rfl (Nat.le_of_ble_eq_true rfl) dL_names_309 ⟨Nat.zero_le _, Nat.zero_le _⟩ ?_
              refine nv_eqi (y := b2i (xFits (Y 5) k (xSize (Y 5)))) (nm7 hok (by omega)) ?_
              refine lv_iconst (v := nI 1) cx.1 cx.2.1 dL_names_312 (by decide) ?_
              have jn313 : ∀ (ls : Array Slot), lv_has ls 12 [(7, .int (b2i (xEb (Y 5) k))), (6, .int (nI j)), (5, .int (nI k)), (4, .int (nI (xn (Y 5)))), (0, .ref (a 0)), (1, .int (nI so)), (2, .int g0), (3, .int h0)] → W p l e ({ frames := 7, cells := 0, slots := 0, locals := 166 } : Room) s m [.ref (a 0), .int (nI so), .int g0, .int h0].toArray below meth c s.heap [] 0 0 (MQ below (QL G (plC G a AD Y) (fun v ws1 => v = 1 ∧ ∃ Y2, Sp Y Y2 ∧ ws1 = plC G a AD Y2)) [.ref (a 0), .int (nI so), .int g0, .int h0].toArray s 0 0 (wA (plC G a AD Y))) (F0 m 321 ls [.int (b2i (xFits (Y 5) k (xSize (Y 5))))]) := by
                intro  ls  hl
                refine lv_istore (lv' := [(8, .int (b2i (xFits (Y 5) k (xSize (Y 5))))), (7, .int (b2i (xEb (Y 5) k))), (6, .int (nI j)), (5, .int (nI k)), (4, .int (nI (xn (Y 5)))), (0, .ref (a 0)), (1, .int (nI so)), (2, .int g0), (3, .int h0)]) cx.1 cx.2.1 dL_names_321 hl (by decide) rfl (fun ls hl => ?_)
                refine lv_aload_n cx.1 cx.2.1 dL_names_323 rfl (lv_at hl 5 rfl) ?_
                refine lv_iload cx.1 cx.2.1 dL_names_324 (lv_at hl 3 rfl) ?_
                refine lv_iconst (v := nI 5) cx.1 cx.2.1 dL_names_326 (by decide) ?_
                refine RO.callV (As := [.int (nI k), .int 5]) (rest := []) cx (c_X6_name l G a AD Y (nI k) 5 hok) gL_names_X6_name rfl hd_X6_name ⟨Nat.le_of_ble_eq_true rfl, Nat.le_of_ble_eq_true rfl⟩ (va_recv hK hP (ci := 5) (q0 := 0) rfl rfl) hK hN hP rfl hl.1 rfl (Nat.le_of_ble_eq_true rfl) dL_names_327 ⟨Nat.zero_le _, Nat.zero_le _⟩ ?_
                refine lv_istore (lv' := [(9, .int (yName (Y 5) (nI k) 5)), (8, .int (b2i (xFits (Y 5) k (xSize (Y 5))))), (7, .int (b2i (xEb (Y 5) k))), (6, .int (nI j)), (5, .int (nI k)), (4, .int (nI (xn (Y 5)))), (0, .ref (a 0)), (1, .int (nI so)), (2, .int g0), (3, .int h0)]) cx.1 cx.2.1 dL_names_330 hl (by decide) rfl (fun ls hl => ?_)
                refine lv_aload_n cx.1 cx.2.1 dL_names_332 rfl (lv_at hl 6 rfl) ?_
                refine RO.callV (As := []) (rest := []) cx (c_X6_size l G a AD Y hok) gL_names_X6_size rfl hd_X6_size ⟨Nat.le_of_ble_eq_true rfl, Nat.le_of_ble_eq_true rfl⟩ (va_recv hK hP (ci := 5) (q0 := 0) rfl rfl) hK hN hP rfl hl.1 rfl (Nat.le_of_ble_eq_true rfl) dL_names_333 ⟨Nat.zero_le _, Nat.zero_le _⟩ ?_
                refine lv_istore (lv' := [(10, .int (xSize (Y 5))), (9, .int (yName (Y 5) (nI k) 5)), (8, .int (b2i (xFits (Y 5) k (xSize (Y 5))))), (7, .int (b2i (xEb (Y 5) k))), (6, .int (nI j)), (5, .int (nI k)), (4, .int (nI (xn (Y 5)))), (0, .ref (a 0)), (1, .int (nI so)), (2, .int g0), (3, .int h0)]) cx.1 cx.2.1 dL_names_336 hl (by decide) rfl (fun ls hl => ?_)
                refine lv_aload_n cx.1 cx.2.1 dL_names_338 rfl (lv_at hl 7 rfl) ?_
                refine lv_iload cx.1 cx.2.1 dL_names_339 (lv_at hl 5 rfl) ?_
                refine WR.callV (As := [.int (nI k)]) (rest := []) cx (c_X6_engrave l G a AD Y (nI k) hG.h hG.all) gL_names_X6_engrave rfl hd_X6_engrave ⟨Nat.le_of_ble_eq_true rfl, Nat.le_of_ble_eq_true rfl⟩ (va_recv hK hP (ci := 5) (q0 := 0) rfl rfl) hK hN hP hD hS (fun _ h => pl_wA0 h) rfl hl.1 rfl (Nat.le_of_ble_eq_true rfl) dL_names_341 ⟨Nat.zero_le _, Nat.zero_le _⟩ (fun H1 locs hP1 hk1 hS => ?_)
                have hP : va_P G.1 vwCl (plC G a AD ((yEng Y (nI k)).2)) H1 := hP1
                have hD : va_D (wA (plC G a AD Y)) (plC G a AD ((yEng Y (nI k)).2)) := pl_Dput hD
                generalize H1 = H at hP hS ⊢
                clear hP1 hk1
                obtain ⟨Y1, e1, sp1, f1, f2, f3⟩ := f_eng hG hk
                rw [e1] at hP hD ⊢
                have hP : va_P G.1 vwCl (plC G a AD Y1) H := hP
                have hD : va_D (wA (plC G a AD Y)) (plC G a AD Y1) := hD
                refine nv_eqi (y := dE (Y 5) k) rfl ?_
                refine lv_istore (lv' := [(11, .int (dE (Y 5) k)), (10, .int (xSize (Y 5))), (9, .int (yName (Y 5) (nI k) 5)), (8, .int (b2i (xFits (Y 5) k (xSize (Y 5))))), (7, .int (b2i (xEb (Y 5) k))), (6, .int (nI j)), (5, .int (nI k)), (4, .int (nI (xn (Y 5)))), (0, .ref (a 0)), (1, .int (nI so)), (2, .int g0), (3, .int h0)]) cx.1 cx.2.1 dL_names_344 hl (by decide) rfl (fun ls hl => ?_)
                refine lv_iload cx.1 cx.2.1 dL_names_346 (lv_at hl 0 rfl) ?_
                refine lv_iload cx.1 cx.2.1 dL_names_348 (lv_at hl 3 rfl) ?_
                have jn350 : ∀ (ls : Array Slot), lv_has ls 12 [(11, .int (dE (Y 5) k)), (10, .int (xSize (Y 5))), (9, .int (yName (Y 5) (nI k) 5)), (8, .int (b2i (xFits (Y 5) k (xSize (Y 5))))), (7, .int (b2i (xEb (Y 5) k))), (6, .int (nI j)), (5, .int (nI k)), (4, .int (nI (xn (Y 5)))), (0, .ref (a 0)), (1, .int (nI so)), (2, .int g0), (3, .int h0)] → W p l e ({ frames := 7, cells := 0, slots := 0, locals := 166 } : Room) s m [.ref (a 0), .int (nI so), .int g0, .int h0].toArray below meth c H locs 0 0 (MQ below (QL G (plC G a AD Y) (fun v ws1 => v = 1 ∧ ∃ Y2, Sp Y Y2 ∧ ws1 = plC G a AD Y2)) [.ref (a 0), .int (nI so), .int g0, .int h0].toArray s 0 0 (wA (plC G a AD Y))) (F0 m 372 ls [.int (dE (Y 5) k), .int (dE (Y 5) k)]) := by
                  intro  ls  hl
                  refine lv_icmp_ne (x := dE (Y 5) k) (y := dE (Y 5) k) (tgt := 416) cx.1 cx.2.1 dL_names_372 (by decide) (fun c_14 => ?_) (fun c_14 => ?_)
                  · exact absurd rfl c_14
                  · refine lv_aload_n cx.1 cx.2.1 dL_names_375 rfl (lv_at hl 8 rfl) ?_
                    refine RO.callV (As := []) (rest := []) cx (c_X6_size l G a AD Y1 sp1.1.ok) gL_names_X6_size rfl hd_X6_size ⟨Nat.le_of_ble_eq_true rfl, Nat.le_of_ble_eq_true rfl⟩ (va_recv hK hP (ci := 5) (q0 := 0) rfl rfl) hK hN hP rfl hl.1 rfl (Nat.le_of_ble_eq_true rfl) dL_names_376 ⟨Nat.zero_le _, Nat.zero_le _⟩ ?_
                    refine lv_iload cx.1 cx.2.1 dL_names_379 (lv_at hl 1 rfl) ?_
                    refine lv_icmp_ne (x := xSize (Y1 5)) (y := xSize (Y 5)) (tgt := 416) cx.1 cx.2.1 dL_names_381 (by decide) (fun c_15 => ?_) (fun c_15 => ?_)
                    · exact absurd f1 c_15
                    · refine lv_iload cx.1 cx.2.1 dL_names_384 (lv_at hl 3 rfl) ?_
                      refine nv_ifz (b := xFits (Y 5) k (xSize (Y 5))) (tgt := 412) cx dL_names_386 (by decide) (fun c_16 => ?_) (fun c_16 => ?_)
                      · refine lv_iconst (v := nI 1) cx.1 cx.2.1 dL_names_412 (by decide) ?_
                        refine lv_goto (tgt := 417) cx.1 cx.2.1 dL_names_413 (by decide) ?_
                        exact LW.retz (x := nI 1) (ws1 := plC G a AD Y1) cx hr hlocks dL_names_417 (by decide) ⟨rfl, _, sp1, rfl⟩ hP hS
                      · have c386 := c_16
                        refine lv_aload_n cx.1 cx.2.1 dL_names_389 rfl (lv_at hl 8 rfl) ?_
                        refine lv_iload cx.1 cx.2.1 dL_names_390 (lv_at hl 6 rfl) ?_
                        refine lv_iconst (v := nI 2) cx.1 cx.2.1 dL_names_392 (by decide) ?_
                        refine RO.callV (As := [.int (nI k), .int 2]) (rest := []) cx (c_X6_name l G a AD Y1 (nI k) 2 sp1.1.ok) gL_names_X6_name rfl hd_X6_name ⟨Nat.le_of_ble_eq_true rfl, Nat.le_of_ble_eq_true rfl⟩ (va_recv hK hP (ci := 5) (q0 := 0) rfl rfl) hK hN hP rfl hl.1 rfl (Nat.le_of_ble_eq_true rfl) dL_names_393 ⟨Nat.zero_le _, Nat.zero_le _⟩ ?_
                        refine nv_eqi (y := b2i (xEb (Y1 5) k)) (nm2 sp1.1.ok (by omega)) ?_
                        refine lv_iconst (v := nI 1) cx.1 cx.2.1 dL_names_396 (by decide) ?_
                        refine lv_icmp_ne (x := b2i (xEb (Y1 5) k)) (y := 1) (tgt := 416) cx.1 cx.2.1 dL_names_397 (by decide) (fun c_17 => ?_) (fun c_17 => ?_)
                        · exact absurd (by rw [(f3 c386).1]; rfl) c_17
                        · refine lv_aload_n cx.1 cx.2.1 dL_names_400 rfl (lv_at hl 8 rfl) ?_
                          refine lv_iload cx.1 cx.2.1 dL_names_401 (lv_at hl 6 rfl) ?_
                          refine lv_iconst (v := nI 5) cx.1 cx.2.1 dL_names_403 (by decide) ?_
                          refine RO.callV (As := [.int (nI k), .int 5]) (rest := []) cx (c_X6_name l G a AD Y1 (nI k) 5 sp1.1.ok) gL_names_X6_name rfl hd_X6_name ⟨Nat.le_of_ble_eq_true rfl, Nat.le_of_ble_eq_true rfl⟩ (va_recv hK hP (ci := 5) (q0 := 0) rfl rfl) hK hN hP rfl hl.1 rfl (Nat.le_of_ble_eq_true rfl) dL_names_404 ⟨Nat.zero_le _, Nat.zero_le _⟩ ?_
                          refine lv_iload cx.1 cx.2.1 dL_names_407 (lv_at hl 2 rfl) ?_
                          refine lv_icmp_ne (x := yName (Y1 5) (nI k) 5) (y := yName (Y 5) (nI k) 5) (tgt := 416) cx.1 cx.2.1 dL_names_409 (by decide) (fun c_18 => ?_) (fun c_18 => ?_)
                          · exact absurd (f3 c386).2 c_18
                          · refine lv_iconst (v := nI 1) cx.1 cx.2.1 dL_names_412 (by decide) ?_
                            refine lv_goto (tgt := 417) cx.1 cx.2.1 dL_names_413 (by decide) ?_
                            exact LW.retz (x := nI 1) (ws1 := plC G a AD Y1) cx hr hlocks dL_names_417 (by decide) ⟨rfl, _, sp1, rfl⟩ hP hS
                refine nv_ifnz (b := xFits (Y 5) k (xSize (Y 5))) (tgt := 359) cx dL_names_350 (by decide) (fun c_19 => ?_) (fun c_19 => ?_)
                · have c350 := c_19
                  refine lv_iload cx.1 cx.2.1 dL_names_359 (lv_at hl 4 rfl) ?_
                  refine nv_ifz (b := xEb (Y 5) k) (tgt := 370) cx dL_names_361 (by decide) (fun c_20 => ?_) (fun c_20 => ?_)
                  · refine lv_iload cx.1 cx.2.1 dL_names_370 (lv_at hl 2 rfl) ?_
                    refine nv_eqi (y := dE (Y 5) k) (by first | exact (if_pos c_20).symm | exact dE_2 c350 c_20 | exact dE_3 c350 c_20) ?_
                    exact jn350  ls  hl
                  · refine lv_sipush (v := (-1005)) cx.1 cx.2.1 dL_names_364 (by decide) ?_
                    refine lv_goto (tgt := 372) cx.1 cx.2.1 dL_names_367 (by decide) ?_
                    refine nv_eqi (y := dE (Y 5) k) (by first | exact (if_pos c_20).symm | exact dE_2 c350 c_20 | exact dE_3 c350 c_20) ?_
                    exact jn350  ls  hl
                · refine lv_sipush (v := (-1004)) cx.1 cx.2.1 dL_names_353 (by decide) ?_
                  refine lv_goto (tgt := 372) cx.1 cx.2.1 dL_names_356 (by decide) ?_
                  refine nv_eqi (y := dE (Y 5) k) (by first | exact (if_pos c_19).symm | exact dE_2 c350 c_19 | exact dE_3 c350 c_19) ?_
                  exact jn350  ls  hl
              refine lv_icmp_ne (x := b2i (xFits (Y 5) k (xSize (Y 5)))) (y := 1) (tgt := 320) cx.1 cx.2.1 dL_names_313 (by decide) (fun c_21 => ?_) (fun c_21 => ?_)
              · refine lv_iconst (v := nI 0) cx.1 cx.2.1 dL_names_320 (by decide) ?_
                refine nv_eqi (y := b2i (xFits (Y 5) k (xSize (Y 5)))) (by first | exact b2i_k1 c_21 | exact b2i_k0 c_21) ?_
                exact jn313  ls  hl
              · refine lv_iconst (v := nI 1) cx.1 cx.2.1 dL_names_316 (by decide) ?_
                refine lv_goto (tgt := 321) cx.1 cx.2.1 dL_names_317 (by decide) ?_
                refine nv_eqi (y := b2i (xFits (Y 5) k (xSize (Y 5)))) (by first | exact b2i_k1 c_21 | exact b2i_k0 c_21) ?_
                exact jn313  ls  hl
          · refine lv_aload_n cx.1 cx.2.1 dL_names_186 rfl (lv_at hl 4 rfl) ?_
            refine lv_iload cx.1 cx.2.1 dL_names_187 (lv_at hl 2 rfl) ?_
            refine lv_iconst (v := nI 1) cx.1 cx.2.1 dL_names_189 (by decide) ?_
            refine RO.callV (As := [.int (nI k), .int 1]) (rest := []) cx (c_X6_name l G a AD Y (nI k) 1 hok) gL_names_X6_name rfl hd_X6_name ⟨Nat.le_of_ble_eq_true rfl, Nat.le_of_ble_eq_true rfl⟩ (va_recv hK hP (ci := 5) (q0 := 0) rfl rfl) hK hN hP rfl hl.1 rfl (Nat.le_of_ble_eq_true rfl) dL_names_190 ⟨Nat.zero_le _, Nat.zero_le _⟩ ?_
            refine nv_eqi (y := xU (Y 5) k) (nm1 hok (by omega)) ?_
            refine lv_istore (lv' := [(8, .int (xU (Y 5) k)), (7, .int (b2i (xEb (Y 5) k))), (6, .int (nI j)), (5, .int (nI k)), (4, .int (nI (xn (Y 5)))), (0, .ref (a 0)), (1, .int (nI so)), (2, .int g0), (3, .int h0)]) cx.1 cx.2.1 dL_names_193 hl (by decide) rfl (fun ls hl => ?_)
            refine lv_iload cx.1 cx.2.1 dL_names_195 (lv_at hl 1 rfl) ?_
            refine nv_ifnz (b := xEb (Y 5) k) (tgt := 214) cx dL_names_197 (by decide) (fun c_22 => ?_) (fun c_22 => ?_)
            · have ck := c_22
              refine lv_iconst (v := nI 0) cx.1 cx.2.1 dL_names_214 (by decide) ?_
              refine lv_istore (lv' := [(9, .int (nI 0)), (8, .int (xU (Y 5) k)), (7, .int (b2i (xEb (Y 5) k))), (6, .int (nI j)), (5, .int (nI k)), (4, .int (nI (xn (Y 5)))), (0, .ref (a 0)), (1, .int (nI so)), (2, .int g0), (3, .int h0)]) cx.1 cx.2.1 dL_names_215 hl (by decide) rfl (fun ls hl => ?_)
              refine lv_aload_n cx.1 cx.2.1 dL_names_217 rfl (lv_at hl 6 rfl) ?_
              refine lv_iload cx.1 cx.2.1 dL_names_218 (lv_at hl 4 rfl) ?_
              refine lv_iload cx.1 cx.2.1 dL_names_220 (lv_at hl 3 rfl) ?_
              refine WR.callV (As := [.int (nI k), .int (nI j)]) (rest := []) cx (c_X6_swap l G a AD Y (nI k) (nI j) hG.h hG.all) gL_names_X6_swap rfl hd_X6_swap ⟨Nat.le_of_ble_eq_true rfl, Nat.le_of_ble_eq_true rfl⟩ (va_recv hK hP (ci := 5) (q0 := 0) rfl rfl) hK hN hP hD hS (fun _ h => pl_wA0 h) rfl hl.1 rfl (Nat.le_of_ble_eq_true rfl) dL_names_222 ⟨Nat.zero_le _, Nat.zero_le _⟩ (fun H1 locs hP1 hk1 hS => ?_)
              have hP : va_P G.1 vwCl (plC G a AD ((ySwap Y (nI k) (nI j)).2)) H1 := hP1
              have hD : va_D (wA (plC G a AD Y)) (plC G a AD ((ySwap Y (nI k) (nI j)).2)) := pl_Dput hD
              generalize H1 = H at hP hS ⊢
              clear hP1 hk1
              obtain ⟨r1, Y1, e1, sp1, f1, f2, f3⟩ := f_swap hG hk hj
              rw [e1] at hP hD ⊢
              have hP : va_P G.1 vwCl (plC G a AD Y1) H := hP
              have hD : va_D (wA (plC G a AD Y)) (plC G a AD Y1) := hD
              refine nv_eqi (y := r1) rfl ?_
              refine lv_istore (lv' := [(10, .int r1), (9, .int (nI 0)), (8, .int (xU (Y 5) k)), (7, .int (b2i (xEb (Y 5) k))), (6, .int (nI j)), (5, .int (nI k)), (4, .int (nI (xn (Y 5)))), (0, .ref (a 0)), (1, .int (nI so)), (2, .int g0), (3, .int h0)]) cx.1 cx.2.1 dL_names_225 hl (by decide) rfl (fun ls hl => ?_)
              refine lv_iload cx.1 cx.2.1 dL_names_227 (lv_at hl 1 rfl) ?_
              refine nv_if_ne (a := 0) (tgt := 248) cx dL_names_229 (by decide) (by omega) (fun c_23 => ?_) (fun c_23 => ?_)
              · exact absurd c_23 (by decide)
              · refine lv_iload cx.1 cx.2.1 dL_names_232 (lv_at hl 0 rfl) ?_
                refine lv_sipush (v := (-1004)) cx.1 cx.2.1 dL_names_234 (by decide) ?_
                refine lv_icmp_ne (x := r1) (y := (-1004)) (tgt := 244) cx.1 cx.2.1 dL_names_237 (by decide) (fun c_24 => ?_) (fun c_24 => ?_)
                · first | exact absurd (f1 (Or.inl ck)) c_24 | exact absurd (f1 (Or.inr cj)) c_24
                · refine lv_iconst (v := nI 1) cx.1 cx.2.1 dL_names_240 (by decide) ?_
                  refine lv_goto (tgt := 297) cx.1 cx.2.1 dL_names_241 (by decide) ?_
                  exact LW.retz (x := nI 1) (ws1 := plC G a AD Y1) cx hr hlocks dL_names_297 (by decide) ⟨rfl, _, sp1, rfl⟩ hP hS
            · have nk := c_22
              refine lv_aload_n cx.1 cx.2.1 dL_names_200 rfl (lv_at hl 5 rfl) ?_
              refine lv_iload cx.1 cx.2.1 dL_names_201 (lv_at hl 2 rfl) ?_
              refine lv_iconst (v := nI 2) cx.1 cx.2.1 dL_names_203 (by decide) ?_
              refine RO.callV (As := [.int (nI j), .int 2]) (rest := []) cx (c_X6_name l G a AD Y (nI j) 2 hok) gL_names_X6_name rfl hd_X6_name ⟨Nat.le_of_ble_eq_true rfl, Nat.le_of_ble_eq_true rfl⟩ (va_recv hK hP (ci := 5) (q0 := 0) rfl rfl) hK hN hP rfl hl.1 rfl (Nat.le_of_ble_eq_true rfl) dL_names_204 ⟨Nat.zero_le _, Nat.zero_le _⟩ ?_
              refine nv_eqi (y := b2i (xEb (Y 5) j)) (nm2 hok (by omega)) ?_
              refine nv_ifnz (b := xEb (Y 5) j) (tgt := 214) cx dL_names_207 (by decide) (fun c_25 => ?_) (fun c_25 => ?_)
              · have cj := c_25
                refine lv_iconst (v := nI 0) cx.1 cx.2.1 dL_names_214 (by decide) ?_
                refine lv_istore (lv' := [(9, .int (nI 0)), (8, .int (xU (Y 5) k)), (7, .int (b2i (xEb (Y 5) k))), (6, .int (nI j)), (5, .int (nI k)), (4, .int (nI (xn (Y 5)))), (0, .ref (a 0)), (1, .int (nI so)), (2, .int g0), (3, .int h0)]) cx.1 cx.2.1 dL_names_215 hl (by decide) rfl (fun ls hl => ?_)
                refine lv_aload_n cx.1 cx.2.1 dL_names_217 rfl (lv_at hl 6 rfl) ?_
                refine lv_iload cx.1 cx.2.1 dL_names_218 (lv_at hl 4 rfl) ?_
                refine lv_iload cx.1 cx.2.1 dL_names_220 (lv_at hl 3 rfl) ?_
                refine WR.callV (As := [.int (nI k), .int (nI j)]) (rest := []) cx (c_X6_swap l G a AD Y (nI k) (nI j) hG.h hG.all) gL_names_X6_swap rfl hd_X6_swap ⟨Nat.le_of_ble_eq_true rfl, Nat.le_of_ble_eq_true rfl⟩ (va_recv hK hP (ci := 5) (q0 := 0) rfl rfl) hK hN hP hD hS (fun _ h => pl_wA0 h) rfl hl.1 rfl (Nat.le_of_ble_eq_true rfl) dL_names_222 ⟨Nat.zero_le _, Nat.zero_le _⟩ (fun H1 locs hP1 hk1 hS => ?_)
                have hP : va_P G.1 vwCl (plC G a AD ((ySwap Y (nI k) (nI j)).2)) H1 := hP1
                have hD : va_D (wA (plC G a AD Y)) (plC G a AD ((ySwap Y (nI k) (nI j)).2)) := pl_Dput hD
                generalize H1 = H at hP hS ⊢
                clear hP1 hk1
                obtain ⟨r1, Y1, e1, sp1, f1, f2, f3⟩ := f_swap hG hk hj
                rw [e1] at hP hD ⊢
                have hP : va_P G.1 vwCl (plC G a AD Y1) H := hP
                have hD : va_D (wA (plC G a AD Y)) (plC G a AD Y1) := hD
                refine nv_eqi (y := r1) rfl ?_
                refine lv_istore (lv' := [(10, .int r1), (9, .int (nI 0)), (8, .int (xU (Y 5) k)), (7, .int (b2i (xEb (Y 5) k))), (6, .int (nI j)), (5, .int (nI k)), (4, .int (nI (xn (Y 5)))), (0, .ref (a 0)), (1, .int (nI so)), (2, .int g0), (3, .int h0)]) cx.1 cx.2.1 dL_names_225 hl (by decide) rfl (fun ls hl => ?_)
                refine lv_iload cx.1 cx.2.1 dL_names_227 (lv_at hl 1 rfl) ?_
                refine nv_if_ne (a := 0) (tgt := 248) cx dL_names_229 (by decide) (by omega) (fun c_26 => ?_) (fun c_26 => ?_)
                · exact absurd c_26 (by decide)
                · refine lv_iload cx.1 cx.2.1 dL_names_232 (lv_at hl 0 rfl) ?_
                  refine lv_sipush (v := (-1004)) cx.1 cx.2.1 dL_names_234 (by decide) ?_
                  refine lv_icmp_ne (x := r1) (y := (-1004)) (tgt := 244) cx.1 cx.2.1 dL_names_237 (by decide) (fun c_27 => ?_) (fun c_27 => ?_)
                  · first | exact absurd (f1 (Or.inl ck)) c_27 | exact absurd (f1 (Or.inr cj)) c_27
                  · refine lv_iconst (v := nI 1) cx.1 cx.2.1 dL_names_240 (by decide) ?_
                    refine lv_goto (tgt := 297) cx.1 cx.2.1 dL_names_241 (by decide) ?_
                    exact LW.retz (x := nI 1) (ws1 := plC G a AD Y1) cx hr hlocks dL_names_297 (by decide) ⟨rfl, _, sp1, rfl⟩ hP hS
              · have nj := c_25
                refine lv_iconst (v := nI 1) cx.1 cx.2.1 dL_names_210 (by decide) ?_
                refine lv_goto (tgt := 215) cx.1 cx.2.1 dL_names_211 (by decide) ?_
                refine lv_istore (lv' := [(9, .int (nI 1)), (8, .int (xU (Y 5) k)), (7, .int (b2i (xEb (Y 5) k))), (6, .int (nI j)), (5, .int (nI k)), (4, .int (nI (xn (Y 5)))), (0, .ref (a 0)), (1, .int (nI so)), (2, .int g0), (3, .int h0)]) cx.1 cx.2.1 dL_names_215 hl (by decide) rfl (fun ls hl => ?_)
                refine lv_aload_n cx.1 cx.2.1 dL_names_217 rfl (lv_at hl 6 rfl) ?_
                refine lv_iload cx.1 cx.2.1 dL_names_218 (lv_at hl 4 rfl) ?_
                refine lv_iload cx.1 cx.2.1 dL_names_220 (lv_at hl 3 rfl) ?_
                refine WR.callV (As := [.int (nI k), .int (nI j)]) (rest := []) cx (c_X6_swap l G a AD Y (nI k) (nI j) hG.h hG.all) gL_names_X6_swap rfl hd_X6_swap ⟨Nat.le_of_ble_eq_true rfl, Nat.le_of_ble_eq_true rfl⟩ (va_recv hK hP (ci := 5) (q0 := 0) rfl rfl) hK hN hP hD hS (fun _ h => pl_wA0 h) rfl hl.1 rfl (Nat.le_of_ble_eq_true rfl) dL_names_222 ⟨Nat.zero_le _, Nat.zero_le _⟩ (fun H1 locs hP1 hk1 hS => ?_)
                have hP : va_P G.1 vwCl (plC G a AD ((ySwap Y (nI k) (nI j)).2)) H1 := hP1
                have hD : va_D (wA (plC G a AD Y)) (plC G a AD ((ySwap Y (nI k) (nI j)).2)) := pl_Dput hD
                generalize H1 = H at hP hS ⊢
                clear hP1 hk1
                obtain ⟨r1, Y1, e1, sp1, f1, f2, f3⟩ := f_swap hG hk hj
                rw [e1] at hP hD ⊢
                have hP : va_P G.1 vwCl (plC G a AD Y1) H := hP
                have hD : va_D (wA (plC G a AD Y)) (plC G a AD Y1) := hD
                refine nv_eqi (y := r1) rfl ?_
                refine lv_istore (lv' := [(10, .int r1), (9, .int (nI 1)), (8, .int (xU (Y 5) k)), (7, .int (b2i (xEb (Y 5) k))), (6, .int (nI j)), (5, .int (nI k)), (4, .int (nI (xn (Y 5)))), (0, .ref (a 0)), (1, .int (nI so)), (2, .int g0), (3, .int h0)]) cx.1 cx.2.1 dL_names_225 hl (by decide) rfl (fun ls hl => ?_)
                refine lv_iload cx.1 cx.2.1 dL_names_227 (lv_at hl 1 rfl) ?_
                refine nv_if_ne (a := 1) (tgt := 248) cx dL_names_229 (by decide) (by omega) (fun c_28 => ?_) (fun c_28 => ?_)
                · refine lv_iload cx.1 cx.2.1 dL_names_248 (lv_at hl 5 rfl) ?_
                  refine lv_iload cx.1 cx.2.1 dL_names_250 (lv_at hl 4 rfl) ?_
                  refine nv_icmp_ne (a := k) (b := j) (tgt := 271) cx dL_names_252 (by decide) (by omega) (by omega) (fun c_29 => ?_) (fun c_29 => ?_)
                  · obtain ⟨g1, g2, g3⟩ := f3 nk nj c_29
                    refine lv_iload cx.1 cx.2.1 dL_names_271 (lv_at hl 0 rfl) ?_
                    refine lv_aload_n cx.1 cx.2.1 dL_names_273 rfl (lv_at hl 7 rfl) ?_
                    refine RO.callV (As := []) (rest := [.int r1]) cx (c_X6_size l G a AD Y1 sp1.1.ok) gL_names_X6_size rfl hd_X6_size ⟨Nat.le_of_ble_eq_true rfl, Nat.le_of_ble_eq_true rfl⟩ (va_recv hK hP (ci := 5) (q0 := 0) rfl rfl) hK hN hP rfl hl.1 rfl (Nat.le_of_ble_eq_true rfl) dL_names_274 ⟨Nat.zero_le _, Nat.zero_le _⟩ ?_
                    refine lv_icmp_ne (x := r1) (y := xSize (Y1 5)) (tgt := 296) cx.1 cx.2.1 dL_names_277 (by decide) (fun c_30 => ?_) (fun c_30 => ?_)
                    · exact absurd g1 c_30
                    · refine lv_aload_n cx.1 cx.2.1 dL_names_280 rfl (lv_at hl 7 rfl) ?_
                      refine lv_iload cx.1 cx.2.1 dL_names_281 (lv_at hl 4 rfl) ?_
                      refine lv_iconst (v := nI 1) cx.1 cx.2.1 dL_names_283 (by decide) ?_
                      refine RO.callV (As := [.int (nI j), .int 1]) (rest := []) cx (c_X6_name l G a AD Y1 (nI j) 1 sp1.1.ok) gL_names_X6_name rfl hd_X6_name ⟨Nat.le_of_ble_eq_true rfl, Nat.le_of_ble_eq_true rfl⟩ (va_recv hK hP (ci := 5) (q0 := 0) rfl rfl) hK hN hP rfl hl.1 rfl (Nat.le_of_ble_eq_true rfl) dL_names_284 ⟨Nat.zero_le _, Nat.zero_le _⟩ ?_
                      refine nv_eqi (y := xU (Y1 5) j) (nm1 sp1.1.ok (by omega)) ?_
                      refine lv_iload cx.1 cx.2.1 dL_names_287 (lv_at hl 2 rfl) ?_
                      refine lv_icmp_ne (x := xU (Y1 5) j) (y := xU (Y 5) k) (tgt := 296) cx.1 cx.2.1 dL_names_289 (by decide) (fun c_31 => ?_) (fun c_31 => ?_)
                      · exact absurd g3 c_31
                      · refine lv_iconst (v := nI 1) cx.1 cx.2.1 dL_names_292 (by decide) ?_
                        refine lv_goto (tgt := 297) cx.1 cx.2.1 dL_names_293 (by decide) ?_
                        exact LW.retz (x := nI 1) (ws1 := plC G a AD Y1) cx hr hlocks dL_names_297 (by decide) ⟨rfl, _, sp1, rfl⟩ hP hS
                  · have c252 := c_29
                    refine lv_iload cx.1 cx.2.1 dL_names_255 (lv_at hl 0 rfl) ?_
                    refine lv_sipush (v := (-1005)) cx.1 cx.2.1 dL_names_257 (by decide) ?_
                    refine lv_icmp_ne (x := r1) (y := (-1005)) (tgt := 267) cx.1 cx.2.1 dL_names_260 (by decide) (fun c_32 => ?_) (fun c_32 => ?_)
                    · exact absurd (f2 nk nj c252) c_32
                    · refine lv_iconst (v := nI 1) cx.1 cx.2.1 dL_names_263 (by decide) ?_
                      refine lv_goto (tgt := 297) cx.1 cx.2.1 dL_names_264 (by decide) ?_
                      exact LW.retz (x := nI 1) (ws1 := plC G a AD Y1) cx hr hlocks dL_names_297 (by decide) ⟨rfl, _, sp1, rfl⟩ hP hS
                · exact absurd c_28 (by decide)
        · refine lv_iconst (v := nI 0) cx.1 cx.2.1 dL_names_97 (by decide) ?_
          refine lv_istore (lv' := [(8, .int (nI 0)), (7, .int (b2i (xEb (Y 5) k))), (6, .int (nI j)), (5, .int (nI k)), (4, .int (nI (xn (Y 5)))), (0, .ref (a 0)), (1, .int (nI so)), (2, .int g0), (3, .int h0)]) cx.1 cx.2.1 dL_names_98 hl (by decide) rfl (fun ls hl => ?_)
          refine lv_iload cx.1 cx.2.1 dL_names_100 (lv_at hl 3 rfl) ?_
          refine lv_istore (lv' := [(9, .int (nI k)), (8, .int (nI 0)), (7, .int (b2i (xEb (Y 5) k))), (6, .int (nI j)), (5, .int (nI k)), (4, .int (nI (xn (Y 5)))), (0, .ref (a 0)), (1, .int (nI so)), (2, .int g0), (3, .int h0)]) cx.1 cx.2.1 dL_names_102 hl (by decide) rfl (fun ls hl => ?_)
          have lp104 : ∀ (r : Nat) (t : Nat) (hr9 : xn (Y 5) - (k + t) < r) (hi : k + t ≤ xn (Y 5)) (ls : Array Slot), lv_has ls 12 [(0, .ref (a 0)), (1, .int (nI so)), (2, .int g0), (3, .int h0), (4, .int (nI (xn (Y 5)))), (5, .int (nI k)), (6, .int (nI j)), (7, .int (b2i (xEb (Y 5) k))), (8, .int (b2i (anyE (Y 5) k t))), (9, .int (nI (k + t)))] → W p l e ({ frames := 7, cells := 0, slots := 0, locals := 166 } : Room) s m [.ref (a 0), .int (nI so), .int g0, .int h0].toArray below meth c s.heap [] 0 0 (MQ below (QL G (plC G a AD Y) (fun v ws1 => v = 1 ∧ ∃ Y2, Sp Y Y2 ∧ ws1 = plC G a AD Y2)) [.ref (a 0), .int (nI so), .int g0, .int h0].toArray s 0 0 (wA (plC G a AD Y))) (F0 m 104 ls []) := by
            intro r
            induction r with
            | zero => intro t hr9; exact absurd hr9 (Nat.not_lt_zero _)
            | succ r ih104 =>
              intro t hr9 hi ls hl
              refine lv_iload cx.1 cx.2.1 dL_names_104 (lv_at hl 9 rfl) ?_
              refine lv_iload cx.1 cx.2.1 dL_names_106 (lv_at hl 4 rfl) ?_
              refine nv_icmp_ge (a := k + t) (b := xn (Y 5)) (tgt := 138) cx dL_names_108 (by decide) (by omega) (by omega) (fun c_33 => ?_) (fun c_33 => ?_)
              · have et : t = xn (Y 5) - k := by omega
                subst et
                refine lv_aload_n cx.1 cx.2.1 dL_names_138 rfl (lv_at hl 0 rfl) ?_
                refine lv_iload cx.1 cx.2.1 dL_names_139 (lv_at hl 5 rfl) ?_
                refine WR.callV (As := [.int (nI k)]) (rest := []) cx (c_X6_remove l G a AD Y (nI k) hG.h hG.all) gL_names_X6_remove rfl hd_X6_remove ⟨Nat.le_of_ble_eq_true rfl, Nat.le_of_ble_eq_true rfl⟩ (va_recv hK hP (ci := 5) (q0 := 0) rfl rfl) hK hN hP hD hS (fun _ h => pl_wA0 h) rfl hl.1 rfl (Nat.le_of_ble_eq_true rfl) dL_names_141 ⟨Nat.zero_le _, Nat.zero_le _⟩ (fun H1 locs hP1 hk1 hS => ?_)
                have hP : va_P G.1 vwCl (plC G a AD ((yRemove Y (nI k)).2)) H1 := hP1
                have hD : va_D (wA (plC G a AD Y)) (plC G a AD ((yRemove Y (nI k)).2)) := pl_Dput hD
                generalize H1 = H at hP hS ⊢
                clear hP1 hk1
                obtain ⟨Y1, e1, sp1, e2⟩ := f_remove hG hk
                rw [e1] at hP hD ⊢
                have hP : va_P G.1 vwCl (plC G a AD Y1) H := hP
                have hD : va_D (wA (plC G a AD Y)) (plC G a AD Y1) := hD
                refine nv_eqi (y := dR (Y 5) k) rfl ?_
                refine lv_iload cx.1 cx.2.1 dL_names_144 (lv_at hl 8 rfl) ?_
                have jn146 : ∀ (ls : Array Slot), lv_has ls 12 [(0, .ref (a 0)), (1, .int (nI so)), (2, .int g0), (3, .int h0), (4, .int (nI (xn (Y 5)))), (5, .int (nI k)), (6, .int (nI j)), (7, .int (b2i (xEb (Y 5) k))), (8, .int (b2i (anyE (Y 5) k (xn (Y 5) - k)))), (9, .int (nI (k + (xn (Y 5) - k))))] → W p l e ({ frames := 7, cells := 0, slots := 0, locals := 166 } : Room) s m [.ref (a 0), .int (nI so), .int g0, .int h0].toArray below meth c H locs 0 0 (MQ below (QL G (plC G a AD Y) (fun v ws1 => v = 1 ∧ ∃ Y2, Sp Y Y2 ∧ ws1 = plC G a AD Y2)) [.ref (a 0), .int (nI so), .int g0, .int h0].toArray s 0 0 (wA (plC G a AD Y))) (F0 m 159 ls [.int (dR (Y 5) k), .int (dR (Y 5) k)]) := by
                  intro  ls  hl
                  refine lv_icmp_ne (x := dR (Y 5) k) (y := dR (Y 5) k) (tgt := 178) cx.1 cx.2.1 dL_names_159 (by decide) (fun c_34 => ?_) (fun c_34 => ?_)
                  · exact absurd rfl c_34
                  · refine lv_aload_n cx.1 cx.2.1 dL_names_162 rfl (lv_at hl 0 rfl) ?_
                    refine lv_iload cx.1 cx.2.1 dL_names_163 (lv_at hl 4 rfl) ?_
                    refine WR.callV (As := [.int (nI (xn (Y 5)))]) (rest := []) cx (c_X6_remove l G a AD Y1 (nI (xn (Y 5))) sp1.1.h sp1.1.all) gL_names_X6_remove rfl hd_X6_remove ⟨Nat.le_of_ble_eq_true rfl, Nat.le_of_ble_eq_true rfl⟩ (va_recv hK hP (ci := 5) (q0 := 0) rfl rfl) hK hN hP hD hS (fun _ h => pl_wA0 h) rfl hl.1 rfl (Nat.le_of_ble_eq_true rfl) dL_names_165 ⟨Nat.zero_le _, Nat.zero_le _⟩ (fun H1 locs hP1 hk1 hS => ?_)
                    have hP : va_P G.1 vwCl (plC G a AD ((yRemove Y1 (nI (xn (Y 5)))).2)) H1 := hP1
                    have hD : va_D (wA (plC G a AD Y)) (plC G a AD ((yRemove Y1 (nI (xn (Y 5)))).2)) := pl_Dput hD
                    generalize H1 = H at hP hS ⊢
                    clear hP1 hk1
                    rw [e2] at hP hD ⊢
                    have hP : va_P G.1 vwCl (plC G a AD Y1) H := hP
                    have hD : va_D (wA (plC G a AD Y)) (plC G a AD Y1) := hD
                    refine nv_eqi (y := (-1001)) rfl ?_
                    refine lv_sipush (v := (-1001)) cx.1 cx.2.1 dL_names_168 (by decide) ?_
                    refine lv_icmp_ne (x := (-1001)) (y := (-1001)) (tgt := 178) cx.1 cx.2.1 dL_names_171 (by decide) (fun c_35 => ?_) (fun c_35 => ?_)
                    · exact absurd rfl c_35
                    · refine lv_iconst (v := nI 1) cx.1 cx.2.1 dL_names_174 (by decide) ?_
                      refine lv_goto (tgt := 179) cx.1 cx.2.1 dL_names_175 (by decide) ?_
                      exact LW.retz (x := nI 1) (ws1 := plC G a AD Y1) cx hr hlocks dL_names_179 (by decide) ⟨rfl, _, sp1, rfl⟩ hP hS
                refine nv_ifz (b := anyE (Y 5) k (xn (Y 5) - k)) (tgt := 155) cx dL_names_146 (by decide) (fun c_36 => ?_) (fun c_36 => ?_)
                · refine lv_iload cx.1 cx.2.1 dL_names_155 (lv_at hl 4 rfl) ?_
                  refine lv_iconst (v := nI 1) cx.1 cx.2.1 dL_names_157 (by decide) ?_
                  refine nv_isub cx (a := xn (Y 5)) (b := 1) (by omega) dL_names_158 ?_
                  refine nv_eqi (y := dR (Y 5) k) (by first | exact dR_1 hRl hk c_36 | exact dR_2 hRl hk c_36) ?_
                  exact jn146  ls  hl
                · refine lv_sipush (v := (-1004)) cx.1 cx.2.1 dL_names_149 (by decide) ?_
                  refine lv_goto (tgt := 159) cx.1 cx.2.1 dL_names_152 (by decide) ?_
                  refine nv_eqi (y := dR (Y 5) k) (by first | exact dR_1 hRl hk c_36 | exact dR_2 hRl hk c_36) ?_
                  exact jn146  ls  hl
              · refine lv_iload cx.1 cx.2.1 dL_names_111 (lv_at hl 8 rfl) ?_
                refine lv_aload_n cx.1 cx.2.1 dL_names_113 rfl (lv_at hl 0 rfl) ?_
                refine lv_iload cx.1 cx.2.1 dL_names_114 (lv_at hl 9 rfl) ?_
                refine lv_iconst (v := nI 2) cx.1 cx.2.1 dL_names_116 (by decide) ?_
                refine RO.callV (As := [.int (nI (k + t)), .int 2]) (rest := [.int (b2i (anyE (Y 5) k t))]) cx (c_X6_name l G a AD Y (nI (k + t)) 2 hok) gL_names_X6_name rfl hd_X6_name ⟨Nat.le_of_ble_eq_true rfl, Nat.le_of_ble_eq_true rfl⟩ (va_recv hK hP (ci := 5) (q0 := 0) rfl rfl) hK hN hP rfl hl.1 rfl (Nat.le_of_ble_eq_true rfl) dL_names_117 ⟨Nat.zero_le _, Nat.zero_le _⟩ ?_
                refine nv_eqi (y := b2i (xEb (Y 5) (k + t))) (nm2 hok (by omega)) ?_
                refine lv_iconst (v := nI 1) cx.1 cx.2.1 dL_names_120 (by decide) ?_
                have jn121 : ∀ (ls : Array Slot), lv_has ls 12 [(0, .ref (a 0)), (1, .int (nI so)), (2, .int g0), (3, .int h0), (4, .int (nI (xn (Y 5)))), (5, .int (nI k)), (6, .int (nI j)), (7, .int (b2i (xEb (Y 5) k))), (8, .int (b2i (anyE (Y 5) k t))), (9, .int (nI (k + t)))] → W p l e ({ frames := 7, cells := 0, slots := 0, locals := 166 } : Room) s m [.ref (a 0), .int (nI so), .int g0, .int h0].toArray below meth c s.heap [] 0 0 (MQ below (QL G (plC G a AD Y) (fun v ws1 => v = 1 ∧ ∃ Y2, Sp Y Y2 ∧ ws1 = plC G a AD Y2)) [.ref (a 0), .int (nI so), .int g0, .int h0].toArray s 0 0 (wA (plC G a AD Y))) (F0 m 129 ls [.int (b2i (xEb (Y 5) (k + t))), .int (b2i (anyE (Y 5) k t))]) := by
                  intro  ls  hl
                  refine lv_ior (x := b2i (anyE (Y 5) k t)) (y := b2i (xEb (Y 5) (k + t))) cx.1 cx.2.1 dL_names_129 ?_
                  refine nv_eqi (y := b2i (anyE (Y 5) k t || xEb (Y 5) (k + t))) (b2i_or _ _) ?_
                  refine lv_istore (lv' := [(8, .int (b2i (anyE (Y 5) k t || xEb (Y 5) (k + t)))), (0, .ref (a 0)), (1, .int (nI so)), (2, .int g0), (3, .int h0), (4, .int (nI (xn (Y 5)))), (5, .int (nI k)), (6, .int (nI j)), (7, .int (b2i (xEb (Y 5) k))), (9, .int (nI (k + t)))]) cx.1 cx.2.1 dL_names_130 hl (by decide) rfl (fun ls hl => ?_)
                  refine lv_iinc (v := nI (k + t + 1)) (lv' := [(9, .int (nI (k + t + 1))), (8, .int (b2i (anyE (Y 5) k t || xEb (Y 5) (k + t)))), (0, .ref (a 0)), (1, .int (nI so)), (2, .int g0), (3, .int h0), (4, .int (nI (xn (Y 5)))), (5, .int (nI k)), (6, .int (nI j)), (7, .int (b2i (xEb (Y 5) k)))]) cx.1 cx.2.1 dL_names_132 hl (k := 9) rfl (show nI (k + t) + Int32.ofInt 1 = nI (k + t + 1) from nI_add (k + t) 1) (by decide) rfl (fun ls hl => ?_)
                  refine lv_goto (tgt := 104) cx.1 cx.2.1 dL_names_135 (by decide) ?_
                  exact ih104 (t + 1) (by omega) (by omega) ls (lv_sub hl [2, 3, 4, 5, 6, 7, 8, 9, 1, 0] rfl)
                refine lv_icmp_ne (x := b2i (xEb (Y 5) (k + t))) (y := 1) (tgt := 128) cx.1 cx.2.1 dL_names_121 (by decide) (fun c_37 => ?_) (fun c_37 => ?_)
                · refine lv_iconst (v := nI 0) cx.1 cx.2.1 dL_names_128 (by decide) ?_
                  refine nv_eqi (y := b2i (xEb (Y 5) (k + t))) (by first | exact b2i_k1 c_37 | exact b2i_k0 c_37) ?_
                  exact jn121  ls  hl
                · refine lv_iconst (v := nI 1) cx.1 cx.2.1 dL_names_124 (by decide) ?_
                  refine lv_goto (tgt := 129) cx.1 cx.2.1 dL_names_125 (by decide) ?_
                  refine nv_eqi (y := b2i (xEb (Y 5) (k + t))) (by first | exact b2i_k1 c_37 | exact b2i_k0 c_37) ?_
                  exact jn121  ls  hl
          exact lp104 _ 0 (Nat.lt_succ_self _) (by omega) ls (lv_sub hl [6, 7, 8, 9, 5, 4, 3, 2, 1, 0] rfl)
      refine lv_icmp_ne (x := b2i (xEb (Y 5) k)) (y := 1) (tgt := 88) cx.1 cx.2.1 dL_names_81 (by decide) (fun c_38 => ?_) (fun c_38 => ?_)
      · refine lv_iconst (v := nI 0) cx.1 cx.2.1 dL_names_88 (by decide) ?_
        refine nv_eqi (y := b2i (xEb (Y 5) k)) (by first | exact b2i_k1 c_38 | exact b2i_k0 c_38) ?_
        exact jn81  ls  hl
      · refine lv_iconst (v := nI 1) cx.1 cx.2.1 dL_names_84 (by decide) ?_
        refine lv_goto (tgt := 89) cx.1 cx.2.1 dL_names_85 (by decide) ?_
        refine nv_eqi (y := b2i (xEb (Y 5) k)) (by first | exact b2i_k1 c_38 | exact b2i_k0 c_38) ?_
        exact jn81  ls  hl
    · exact jn9  ls  hl
