/-! ===== the law's own body (laid by wip/p28/lawgen.py) ===== -/

set_option maxHeartbeats 4000000 in
set_option maxRecDepth 100000 in
theorem law_all {Zz : State → Prop} {p : Program} {l : Launch} {e : Env} {s : State} {m : MethodId} {below : List Frame} {meth : Method} {c : Code} {G : GG} {a : Nat → Nat} {AD : Nat → Nat → Nat} {b L : Nat} {xs : Nat → Int32} (cx : CallFix p m c cL_law 12 s #[Value.ref b] wsL_law RL) (hK : va_K G.1 vwCl (T3 G) s) (hN : Nst s) (hX : va_X b L xs s s.heap) (hbl : b < s.heap.size) (hL : L ≤ 260) (kend : ∀ (H : Heap) (locs : List Loc) (ls : Array Slot), va_S (fun q : Nat => s.heap.size ≤ q) s.heap H locs → ls.size = 12 → W p l e room_1 s m #[Value.ref b] below meth c H locs 61 2910 Zz (F0 m 377 ls [])) (H : Heap) (locs : List Loc) (ls : Array Slot) (hP : va_P G.1 vwCl (plC G a AD YZ) H) (hD : va_D (fun q : Nat => s.heap.size ≤ q) (plC G a AD YZ)) (hS : va_S (fun q : Nat => s.heap.size ≤ q) s.heap H locs) (hl : lv_has ls 12 [(1, .ref (a 0)), (0, .ref b)]) : W p l e room_1 s m #[Value.ref b] below meth c H locs 61 2910 Zz (F0 m 8 ls []) := by
  refine lv_aload_n cx.1 cx.2.1 dL_law_8 rfl (lv_at hl 0 rfl) ?_
  refine WR.callV (As := []) (rest := []) cx (c_X6_undo l G a AD YZ Gd_Z.h Gd_Z.all) gL_law_X6_undo rfl hd_X6_undo ⟨Nat.le_of_ble_eq_true rfl, Nat.le_of_ble_eq_true rfl⟩ (va_recv hK hP (ci := 5) (q0 := 0) rfl rfl) hK hN hP hD hS (fun _ h => wA_in hD h) rfl hl.1 rfl (Nat.le_of_ble_eq_true rfl) dL_law_9 ⟨Nat.le_of_ble_eq_true rfl, Nat.le_of_ble_eq_true rfl⟩ (fun H1 locs hP1 hk1 hS => ?_)
  have hP : va_P G.1 vwCl (plC G a AD ((yUndo YZ).2)) H1 := hP1
  have hD : va_D (fun q : Nat => s.heap.size ≤ q) (plC G a AD ((yUndo YZ).2)) := pl_Dput hD
  generalize H1 = H at hP hS ⊢
  clear hP1 hk1
  rw [z_undo] at hP hD ⊢
  have hP : va_P G.1 vwCl (plC G a AD YZ) H := hP
  have hD : va_D (fun q : Nat => s.heap.size ≤ q) (plC G a AD YZ) := hD
  refine nv_eqi (y := (-1005)) rfl ?_
  refine lv_sipush (v := (-1005)) cx.1 cx.2.1 dL_law_12 (by decide) ?_
  refine lv_icmp_ne (x := (-1005)) (y := (-1005)) (tgt := 89) cx.1 cx.2.1 dL_law_15 (by decide) (fun c_1 => ?_) (fun c_1 => ?_)
  · exact absurd rfl c_1
  · refine lv_aload_n cx.1 cx.2.1 dL_law_18 rfl (lv_at hl 0 rfl) ?_
    refine WR.callV (As := []) (rest := []) cx (c_X6_restore l G a AD YZ Gd_Z.h Gd_Z.all) gL_law_X6_restore rfl hd_X6_restore ⟨Nat.le_of_ble_eq_true rfl, Nat.le_of_ble_eq_true rfl⟩ (va_recv hK hP (ci := 5) (q0 := 0) rfl rfl) hK hN hP hD hS (fun _ h => wA_in hD h) rfl hl.1 rfl (Nat.le_of_ble_eq_true rfl) dL_law_19 ⟨Nat.le_of_ble_eq_true rfl, Nat.le_of_ble_eq_true rfl⟩ (fun H1 locs hP1 hk1 hS => ?_)
    have hP : va_P G.1 vwCl (plC G a AD ((yRest YZ).2)) H1 := hP1
    have hD : va_D (fun q : Nat => s.heap.size ≤ q) (plC G a AD ((yRest YZ).2)) := pl_Dput hD
    generalize H1 = H at hP hS ⊢
    clear hP1 hk1
    rw [z_rest] at hP hD ⊢
    have hP : va_P G.1 vwCl (plC G a AD YZ) H := hP
    have hD : va_D (fun q : Nat => s.heap.size ≤ q) (plC G a AD YZ) := hD
    refine nv_eqi (y := (-1005)) rfl ?_
    refine lv_sipush (v := (-1005)) cx.1 cx.2.1 dL_law_22 (by decide) ?_
    refine lv_icmp_ne (x := (-1005)) (y := (-1005)) (tgt := 89) cx.1 cx.2.1 dL_law_25 (by decide) (fun c_2 => ?_) (fun c_2 => ?_)
    · exact absurd rfl c_2
    · refine lv_aload_n cx.1 cx.2.1 dL_law_28 rfl (lv_at hl 0 rfl) ?_
      refine WR.callV (As := []) (rest := []) cx (c_X6_readNames l G a AD YZ Gd_Z.t Gd_Z.h Gd_Z.all) gL_law_X6_readNames rfl hd_X6_readNames ⟨Nat.le_of_ble_eq_true rfl, Nat.le_of_ble_eq_true rfl⟩ (va_recv hK hP (ci := 5) (q0 := 0) rfl rfl) hK hN hP hD hS (fun _ h => wA_in hD h) rfl hl.1 rfl (Nat.le_of_ble_eq_true rfl) dL_law_29 ⟨Nat.le_of_ble_eq_true rfl, Nat.le_of_ble_eq_true rfl⟩ (fun H1 locs hP1 hk1 hS => ?_)
      have hP : va_P G.1 vwCl (plC G a AD ((yReadN YZ).2)) H1 := hP1
      have hD : va_D (fun q : Nat => s.heap.size ≤ q) (plC G a AD ((yReadN YZ).2)) := pl_Dput hD
      generalize H1 = H at hP hS ⊢
      clear hP1 hk1
      rw [z_read] at hP hD ⊢
      have hP : va_P G.1 vwCl (plC G a AD YZ) H := hP
      have hD : va_D (fun q : Nat => s.heap.size ≤ q) (plC G a AD YZ) := hD
      refine nv_eqi (y := (-100)) rfl ?_
      refine lv_bipush (v := (-100)) cx.1 cx.2.1 dL_law_32 (by decide) ?_
      refine lv_icmp_ne (x := (-100)) (y := (-100)) (tgt := 89) cx.1 cx.2.1 dL_law_34 (by decide) (fun c_3 => ?_) (fun c_3 => ?_)
      · exact absurd rfl c_3
      · refine lv_aload_n cx.1 cx.2.1 dL_law_37 rfl (lv_at hl 0 rfl) ?_
        refine RO.callV (As := []) (rest := []) cx (c_X6_size l G a AD YZ Gd_Z.ok) gL_law_X6_size rfl hd_X6_size ⟨Nat.le_of_ble_eq_true rfl, Nat.le_of_ble_eq_true rfl⟩ (va_recv hK hP (ci := 5) (q0 := 0) rfl rfl) hK hN hP rfl hl.1 rfl (Nat.le_of_ble_eq_true rfl) dL_law_38 ⟨Nat.le_of_ble_eq_true rfl, Nat.le_of_ble_eq_true rfl⟩ ?_
        refine nv_eqi (y := 40) z_size ?_
        refine lv_bipush (v := nI 40) cx.1 cx.2.1 dL_law_41 (by decide) ?_
        refine lv_icmp_ne (x := 40) (y := 40) (tgt := 89) cx.1 cx.2.1 dL_law_43 (by decide) (fun c_4 => ?_) (fun c_4 => ?_)
        · exact absurd rfl c_4
        · refine lv_aload_n cx.1 cx.2.1 dL_law_46 rfl (lv_at hl 0 rfl) ?_
          refine RO.callV (As := []) (rest := []) cx (c_X6_longest l G a AD YZ Gd_Z.ok) gL_law_X6_longest rfl hd_X6_longest ⟨Nat.le_of_ble_eq_true rfl, Nat.le_of_ble_eq_true rfl⟩ (va_recv hK hP (ci := 5) (q0 := 0) rfl rfl) hK hN hP rfl hl.1 rfl (Nat.le_of_ble_eq_true rfl) dL_law_47 ⟨Nat.le_of_ble_eq_true rfl, Nat.le_of_ble_eq_true rfl⟩ ?_
          refine nv_eqi (y := (-1005)) z_long ?_
          refine lv_sipush (v := (-1005)) cx.1 cx.2.1 dL_law_50 (by decide) ?_
          refine lv_icmp_ne (x := (-1005)) (y := (-1005)) (tgt := 89) cx.1 cx.2.1 dL_law_53 (by decide) (fun c_5 => ?_) (fun c_5 => ?_)
          · exact absurd rfl c_5
          · refine lv_aload_n cx.1 cx.2.1 dL_law_56 rfl (lv_at hl 0 rfl) ?_
            refine WR.callV (As := []) (rest := []) cx (c_X6_engraveAll l G a AD YZ Gd_Z.h Gd_Z.all) gL_law_X6_engraveAll rfl hd_X6_engraveAll ⟨Nat.le_of_ble_eq_true rfl, Nat.le_of_ble_eq_true rfl⟩ (va_recv hK hP (ci := 5) (q0 := 0) rfl rfl) hK hN hP hD hS (fun _ h => wA_in hD h) rfl hl.1 rfl (Nat.le_of_ble_eq_true rfl) dL_law_57 ⟨Nat.le_of_ble_eq_true rfl, Nat.le_of_ble_eq_true rfl⟩ (fun H1 locs hP1 hk1 hS => ?_)
            have hP : va_P G.1 vwCl (plC G a AD ((yEngA YZ).2)) H1 := hP1
            have hD : va_D (fun q : Nat => s.heap.size ≤ q) (plC G a AD ((yEngA YZ).2)) := pl_Dput hD
            generalize H1 = H at hP hS ⊢
            clear hP1 hk1
            rw [z_engA] at hP hD ⊢
            have hP : va_P G.1 vwCl (plC G a AD YZ) H := hP
            have hD : va_D (fun q : Nat => s.heap.size ≤ q) (plC G a AD YZ) := hD
            refine nv_eqi (y := (-1005)) rfl ?_
            refine lv_sipush (v := (-1005)) cx.1 cx.2.1 dL_law_60 (by decide) ?_
            refine lv_icmp_ne (x := (-1005)) (y := (-1005)) (tgt := 89) cx.1 cx.2.1 dL_law_63 (by decide) (fun c_6 => ?_) (fun c_6 => ?_)
            · exact absurd rfl c_6
            · refine lv_aload_n cx.1 cx.2.1 dL_law_66 rfl (lv_at hl 0 rfl) ?_
              refine lv_iconst (v := nI 0) cx.1 cx.2.1 dL_law_67 (by decide) ?_
              refine WR.callV (As := [.int 0]) (rest := []) cx (c_X6_engrave l G a AD YZ 0 Gd_Z.h Gd_Z.all) gL_law_X6_engrave rfl hd_X6_engrave ⟨Nat.le_of_ble_eq_true rfl, Nat.le_of_ble_eq_true rfl⟩ (va_recv hK hP (ci := 5) (q0 := 0) rfl rfl) hK hN hP hD hS (fun _ h => wA_in hD h) rfl hl.1 rfl (Nat.le_of_ble_eq_true rfl) dL_law_68 ⟨Nat.le_of_ble_eq_true rfl, Nat.le_of_ble_eq_true rfl⟩ (fun H1 locs hP1 hk1 hS => ?_)
              have hP : va_P G.1 vwCl (plC G a AD ((yEng YZ 0).2)) H1 := hP1
              have hD : va_D (fun q : Nat => s.heap.size ≤ q) (plC G a AD ((yEng YZ 0).2)) := pl_Dput hD
              generalize H1 = H at hP hS ⊢
              clear hP1 hk1
              rw [z_eng] at hP hD ⊢
              have hP : va_P G.1 vwCl (plC G a AD YZ) H := hP
              have hD : va_D (fun q : Nat => s.heap.size ≤ q) (plC G a AD YZ) := hD
              refine nv_eqi (y := (-1001)) rfl ?_
              refine lv_sipush (v := (-1001)) cx.1 cx.2.1 dL_law_71 (by decide) ?_
              refine lv_icmp_ne (x := (-1001)) (y := (-1001)) (tgt := 89) cx.1 cx.2.1 dL_law_74 (by decide) (fun c_7 => ?_) (fun c_7 => ?_)
              · exact absurd rfl c_7
              · refine lv_aload_n cx.1 cx.2.1 dL_law_77 rfl (lv_at hl 0 rfl) ?_
                refine lv_iconst (v := nI 0) cx.1 cx.2.1 dL_law_78 (by decide) ?_
                refine lv_iconst (v := nI 0) cx.1 cx.2.1 dL_law_79 (by decide) ?_
                refine RO.callV (As := [.int 0, .int 0]) (rest := []) cx (c_X6_signAt l G a AD YZ 0 0 Gd_Z.ok) gL_law_X6_signAt rfl hd_X6_signAt ⟨Nat.le_of_ble_eq_true rfl, Nat.le_of_ble_eq_true rfl⟩ (va_recv hK hP (ci := 5) (q0 := 0) rfl rfl) hK hN hP rfl hl.1 rfl (Nat.le_of_ble_eq_true rfl) dL_law_80 ⟨Nat.le_of_ble_eq_true rfl, Nat.le_of_ble_eq_true rfl⟩ ?_
                refine nv_eqi (y := (-1005)) z_at ?_
                refine lv_sipush (v := (-1005)) cx.1 cx.2.1 dL_law_83 (by decide) ?_
                refine lv_icmp_eq (x := (-1005)) (y := (-1005)) (tgt := 91) cx.1 cx.2.1 dL_law_86 (by decide) (fun c_8 => ?_) (fun c_8 => ?_)
                · refine lv_iconst (v := nI 0) cx.1 cx.2.1 dL_law_91 (by decide) ?_
                  refine lv_istore_n (lv' := [(2, .int (nI 0)), (1, .ref (a 0)), (0, .ref b)]) cx.1 cx.2.1 dL_law_92 rfl hl (by decide) rfl (fun ls hl => ?_)
                  have lp93 : ∀ (r : Nat) (i : Nat) (Y : Nat → XS) (hr9 : 10 - i < r) (hi : i ≤ 10) (hG : Gd Y) (H : Heap) (locs : List Loc) (hP : va_P G.1 vwCl (plC G a AD Y) H) (hD : va_D (fun q : Nat => s.heap.size ≤ q) (plC G a AD Y)) (hS : va_S (fun q : Nat => s.heap.size ≤ q) s.heap H locs) (ls : Array Slot), lv_has ls 12 [(0, .ref b), (1, .ref (a 0)), (2, .int (nI i))] → W p l e room_1 s m #[Value.ref b] below meth c H locs 61 2910 Zz (F0 m 93 ls []) := by
                    intro r
                    induction r with
                    | zero => intro i Y hr9; exact absurd hr9 (Nat.not_lt_zero _)
                    | succ r ih93 =>
                      intro i Y hr9 hi hG H locs hP hD hS ls hl
                      refine lv_iload_n cx.1 cx.2.1 dL_law_93 rfl (lv_at hl 2 rfl) ?_
                      refine lv_bipush (v := nI 10) cx.1 cx.2.1 dL_law_94 (by decide) ?_
                      refine nv_icmp_ge (a := i) (b := 10) (tgt := 377) cx dL_law_96 (by decide) (by omega) (by omega) (fun c_9 => ?_) (fun c_9 => ?_)
                      · exact kend _ _ ls hS hl.1
                      · refine lv_aload_n cx.1 cx.2.1 dL_law_99 rfl (lv_at hl 0 rfl) ?_
                        refine lv_iconst (v := nI 2) cx.1 cx.2.1 dL_law_100 (by decide) ?_
                        refine lv_iload_n cx.1 cx.2.1 dL_law_101 rfl (lv_at hl 2 rfl) ?_
                        refine nv_imul cx (a := 2) (b := i) dL_law_102 ?_
                        refine CE.callS (rest := []) cx (c_L_cell l b L xs hL (2 * i) (by omega)) gL_law_L_cell rfl hd_L_cell ⟨Nat.le_of_ble_eq_true rfl, Nat.le_of_ble_eq_true rfl⟩ hX hbl hS hl.1 rfl (Nat.le_of_ble_eq_true rfl) dL_law_103 ⟨Nat.le_of_ble_eq_true rfl, Nat.le_of_ble_eq_true rfl⟩ (fun g1 => ?_)
                        refine lv_istore_n (lv' := [(3, .int g1), (0, .ref b), (1, .ref (a 0)), (2, .int (nI i))]) cx.1 cx.2.1 dL_law_106 rfl hl (by decide) rfl (fun ls hl => ?_)
                        refine lv_aload_n cx.1 cx.2.1 dL_law_107 rfl (lv_at hl 1 rfl) ?_
                        refine lv_iconst (v := nI 2) cx.1 cx.2.1 dL_law_108 (by decide) ?_
                        refine lv_iload_n cx.1 cx.2.1 dL_law_109 rfl (lv_at hl 3 rfl) ?_
                        refine nv_imul cx (a := 2) (b := i) dL_law_110 ?_
                        refine lv_iconst (v := nI 1) cx.1 cx.2.1 dL_law_111 (by decide) ?_
                        refine nv_iadd cx (a := 2 * i) (b := 1) dL_law_112 ?_
                        refine CE.callS (rest := []) cx (c_L_cell l b L xs hL (2 * i + 1) (by omega)) gL_law_L_cell rfl hd_L_cell ⟨Nat.le_of_ble_eq_true rfl, Nat.le_of_ble_eq_true rfl⟩ hX hbl hS hl.1 rfl (Nat.le_of_ble_eq_true rfl) dL_law_113 ⟨Nat.le_of_ble_eq_true rfl, Nat.le_of_ble_eq_true rfl⟩ (fun h1 => ?_)
                        refine lv_istore (lv' := [(4, .int h1), (3, .int g1), (0, .ref b), (1, .ref (a 0)), (2, .int (nI i))]) cx.1 cx.2.1 dL_law_116 hl (by decide) rfl (fun ls hl => ?_)
                        refine lv_iload_n cx.1 cx.2.1 dL_law_118 rfl (lv_at hl 4 rfl) ?_
                        refine lv_iconst (v := nI 2) cx.1 cx.2.1 dL_law_119 (by decide) ?_
                        have jn120 : ∀ (so : Nat) (ls : Array Slot), so < 15 → lv_has ls 12 [(4, .int h1), (3, .int g1), (0, .ref b), (1, .ref (a 0)), (2, .int (nI i))] → W p l e room_1 s m #[Value.ref b] below meth c H locs 61 2910 Zz (F0 m 137 ls [.int (nI so)]) := by
                          intro so ls hso hl
                          refine lv_istore (lv' := [(5, .int (nI so)), (4, .int h1), (3, .int g1), (0, .ref b), (1, .ref (a 0)), (2, .int (nI i))]) cx.1 cx.2.1 dL_law_137 hl (by decide) rfl (fun ls hl => ?_)
                          refine lv_aload_n cx.1 cx.2.1 dL_law_139 rfl (lv_at hl 4 rfl) ?_
                          refine lv_bipush (v := nI 10) cx.1 cx.2.1 dL_law_140 (by decide) ?_
                          refine RO.callV (As := [.int 10]) (rest := []) cx (c_X6_count l G a AD Y 10 hG.ok) gL_law_X6_count rfl hd_X6_count ⟨Nat.le_of_ble_eq_true rfl, Nat.le_of_ble_eq_true rfl⟩ (va_recv hK hP (ci := 5) (q0 := 0) rfl rfl) hK hN hP rfl hl.1 rfl (Nat.le_of_ble_eq_true rfl) dL_law_142 ⟨Nat.le_of_ble_eq_true rfl, Nat.le_of_ble_eq_true rfl⟩ ?_
                          refine nv_eqi (y := nI (yq Y)) (ct10 hG.h) ?_
                          refine lv_istore (lv' := [(6, .int (nI (yq Y))), (5, .int (nI so)), (4, .int h1), (3, .int g1), (0, .ref b), (1, .ref (a 0)), (2, .int (nI i))]) cx.1 cx.2.1 dL_law_145 hl (by decide) rfl (fun ls hl => ?_)
                          refine lv_aload_n cx.1 cx.2.1 dL_law_147 rfl (lv_at hl 5 rfl) ?_
                          refine ROl.callS (As := [.ref (a 0)]) (rest := []) cx (c_L_digest l G a AD Y hG) gL_law_L_digest rfl hd_L_digest ⟨Nat.le_of_ble_eq_true rfl, Nat.le_of_ble_eq_true rfl⟩ hK hN hP rfl hl.1 rfl (Nat.le_of_ble_eq_true rfl) dL_law_148 ⟨Nat.le_of_ble_eq_true rfl, Nat.le_of_ble_eq_true rfl⟩ ?_
                          refine lv_lstore (lv' := [(7, .long (dig Y)), (6, .int (nI (yq Y))), (5, .int (nI so)), (4, .int h1), (3, .int g1), (0, .ref b), (1, .ref (a 0)), (2, .int (nI i))]) cx.1 cx.2.1 dL_law_151 hl (by decide) rfl (fun ls hl => ?_)
                          have hq5 := hG.h.q5
                          have jn153 : ∀ (Y1 : Nat → XS) (ls : Array Slot) (H : Heap) (locs : List Loc), va_P G.1 vwCl (plC G a AD Y1) H → va_D (fun q : Nat => s.heap.size ≤ q) (plC G a AD Y1) → va_S (fun q : Nat => s.heap.size ≤ q) s.heap H locs → Sp Y Y1 → lv_has ls 12 [(7, .long (dig Y)), (6, .int (nI (yq Y))), (5, .int (nI so)), (4, .int h1), (3, .int g1), (0, .ref b), (1, .ref (a 0)), (2, .int (nI i)), (9, .int (nI 1))] → W p l e room_1 s m #[Value.ref b] below meth c H locs 61 2910 Zz (F0 m 205 ls []) := by
                            intro Y1 ls H locs hP hD hS sp1 hl
                            refine lv_iload cx.1 cx.2.1 dL_law_205 (lv_at hl 1 rfl) ?_
                            refine lv_iconst (v := nI 5) cx.1 cx.2.1 dL_law_207 (by decide) ?_
                            have jn208 : ∀ (ls : Array Slot), lv_has ls 12 [(7, .long (dig Y)), (6, .int (nI (yq Y))), (5, .int (nI so)), (4, .int h1), (3, .int g1), (0, .ref b), (1, .ref (a 0)), (2, .int (nI i)), (9, .int (nI 1))] → W p l e room_1 s m #[Value.ref b] below meth c H locs 61 2910 Zz (F0 m 217 ls [.int (nI (lstN (yq Y)))]) := by
                              intro  ls  hl
                              have hls := lstN_le hq5
                              refine lv_istore (lv' := [(10, .int (nI (lstN (yq Y)))), (7, .long (dig Y)), (6, .int (nI (yq Y))), (5, .int (nI so)), (4, .int h1), (3, .int g1), (0, .ref b), (1, .ref (a 0)), (2, .int (nI i)), (9, .int (nI 1))]) cx.1 cx.2.1 dL_law_217 hl (by decide) rfl (fun ls hl => ?_)
                              refine lv_iload cx.1 cx.2.1 dL_law_219 (lv_at hl 9 rfl) ?_
                              refine nv_if_eq (a := 1) (tgt := 286) cx dL_law_221 (by decide) (by omega) (fun c_10 => ?_) (fun c_10 => ?_)
                              · exact absurd c_10 (by decide)
                              · refine lv_iload cx.1 cx.2.1 dL_law_224 (lv_at hl 4 rfl) ?_
                                refine lv_sipush (v := nI 3072) cx.1 cx.2.1 dL_law_226 (by decide) ?_
                                refine lv_iand (x := h1) (y := 3072) cx.1 cx.2.1 dL_law_229 ?_
                                have jn230 : ∀ (Y2 : Nat → XS) (ls : Array Slot) (H : Heap) (locs : List Loc), va_P G.1 vwCl (plC G a AD Y2) H → va_D (fun q : Nat => s.heap.size ≤ q) (plC G a AD Y2) → va_S (fun q : Nat => s.heap.size ≤ q) s.heap H locs → Gd Y2 → lv_has ls 12 [(4, .int h1), (3, .int g1), (0, .ref b), (1, .ref (a 0)), (2, .int (nI i)), (9, .int (nI 1))] → W p l e room_1 s m #[Value.ref b] below meth c H locs 61 2910 Zz (F0 m 286 ls []) := by
                                  intro Y2 ls H locs hP hD hS hG2 hl
                                  refine lv_aload_n cx.1 cx.2.1 dL_law_286 rfl (lv_at hl 3 rfl) ?_
                                  refine lv_iconst (v := nI 4) cx.1 cx.2.1 dL_law_287 (by decide) ?_
                                  refine RO.callV (As := [.int 4]) (rest := []) cx (c_X6_count l G a AD Y2 4 hG2.ok) gL_law_X6_count rfl hd_X6_count ⟨Nat.le_of_ble_eq_true rfl, Nat.le_of_ble_eq_true rfl⟩ (va_recv hK hP (ci := 5) (q0 := 0) rfl rfl) hK hN hP rfl hl.1 rfl (Nat.le_of_ble_eq_true rfl) dL_law_288 ⟨Nat.le_of_ble_eq_true rfl, Nat.le_of_ble_eq_true rfl⟩ ?_
                                  refine nv_eqi (y := nI (xn (Y2 5))) (ct4 hG2.ok) ?_
                                  have hy20 := hG2.ok.n20
                                  refine lv_istore (lv' := [(11, .int (nI (xn (Y2 5)))), (4, .int h1), (3, .int g1), (0, .ref b), (1, .ref (a 0)), (2, .int (nI i)), (9, .int (nI 1))]) cx.1 cx.2.1 dL_law_291 hl (by decide) rfl (fun ls hl => ?_)
                                  refine lv_iload cx.1 cx.2.1 dL_law_293 (lv_at hl 6 rfl) ?_
                                  refine nv_if_eq (a := 1) (tgt := 329) cx dL_law_295 (by decide) (by omega) (fun c_11 => ?_) (fun c_11 => ?_)
                                  · exact absurd c_11 (by decide)
                                  · refine lv_aload_n cx.1 cx.2.1 dL_law_298 rfl (lv_at hl 4 rfl) ?_
                                    refine lv_iload cx.1 cx.2.1 dL_law_299 (lv_at hl 0 rfl) ?_
                                    have jn301 : ∀ (wi : Nat) (ls : Array Slot), (0 < xn (Y2 5) → wi < xn (Y2 5)) → lv_has ls 12 [(11, .int (nI (xn (Y2 5)))), (4, .int h1), (3, .int g1), (0, .ref b), (1, .ref (a 0)), (2, .int (nI i)), (9, .int (nI 1))] → W p l e room_1 s m #[Value.ref b] below meth c H locs 61 2910 Zz (F0 m 316 ls [.int (nI wi), .ref (a 0)]) := by
                                      intro wi ls hwi hl
                                      refine RO.callS (As := [.ref (a 0), .int (nI wi)]) (rest := []) cx (c_L_sizes l G a AD Y2 wi hG2 hwi) gL_law_L_sizes rfl hd_L_sizes ⟨Nat.le_of_ble_eq_true rfl, Nat.le_of_ble_eq_true rfl⟩ hK hN hP rfl hl.1 rfl (Nat.le_of_ble_eq_true rfl) dL_law_316 ⟨Nat.le_of_ble_eq_true rfl, Nat.le_of_ble_eq_true rfl⟩ ?_
                                      refine nv_ifz (b := true) (tgt := 329) cx dL_law_319 (by decide) (fun c_12 => ?_) (fun c_12 => ?_)
                                      · exact absurd c_12 (by decide)
                                      · refine lv_aload_n cx.1 cx.2.1 dL_law_322 rfl (lv_at hl 4 rfl) ?_
                                        refine RO.callS (As := [.ref (a 0)]) (rest := []) cx (c_L_pairs l G a AD Y2 hG2) gL_law_L_pairs rfl hd_L_pairs ⟨Nat.le_of_ble_eq_true rfl, Nat.le_of_ble_eq_true rfl⟩ hK hN hP rfl hl.1 rfl (Nat.le_of_ble_eq_true rfl) dL_law_323 ⟨Nat.le_of_ble_eq_true rfl, Nat.le_of_ble_eq_true rfl⟩ ?_
                                        refine nv_ifnz (b := true) (tgt := 331) cx dL_law_326 (by decide) (fun c_13 => ?_) (fun c_13 => ?_)
                                        · refine lv_iload cx.1 cx.2.1 dL_law_331 (lv_at hl 0 rfl) ?_
                                          refine nv_if_le (a := xn (Y2 5)) (tgt := 371) cx dL_law_333 (by decide) (by omega) (fun c_14 => ?_) (fun c_14 => ?_)
                                          · refine lv_iinc (v := nI (i + 1)) (lv' := [(2, .int (nI (i + 1))), (11, .int (nI (xn (Y2 5)))), (4, .int h1), (3, .int g1), (0, .ref b), (1, .ref (a 0)), (9, .int (nI 1))]) cx.1 cx.2.1 dL_law_371 hl (k := 5) rfl (show nI i + Int32.ofInt 1 = nI (i + 1) from nI_add i 1) (by decide) rfl (fun ls hl => ?_)
                                            refine lv_goto (tgt := 93) cx.1 cx.2.1 dL_law_374 (by decide) ?_
                                            exact ih93 (i + 1) Y2 (by omega) (by omega) hG2 _ _ hP hD hS ls (lv_sub hl [4, 5, 0] rfl)
                                          · have hmany : 0 < xn (Y2 5) := c_14
                                            refine lv_aload_n cx.1 cx.2.1 dL_law_336 rfl (lv_at hl 4 rfl) ?_
                                            refine lv_iload_n cx.1 cx.2.1 dL_law_337 rfl (lv_at hl 2 rfl) ?_
                                            refine lv_iconst (v := nI 3) cx.1 cx.2.1 dL_law_338 (by decide) ?_
                                            refine lv_ishr (x := g1) (y := 3) cx.1 cx.2.1 dL_law_339 ?_
                                            refine lv_iload cx.1 cx.2.1 dL_law_340 (lv_at hl 0 rfl) ?_
                                            refine RO.callS (As := [.int (g1 >>> (3 &&& 31)), .int (nI (xn (Y2 5)))]) (rest := [.ref (a 0)]) cx (c_L_low l G (g1 >>> (3 &&& 31)) (xn (Y2 5)) hmany (by omega)) gL_law_L_low rfl hd_L_low ⟨Nat.le_of_ble_eq_true rfl, Nat.le_of_ble_eq_true rfl⟩ hK hN va_P.nil rfl hl.1 rfl (Nat.le_of_ble_eq_true rfl) dL_law_342 ⟨Nat.le_of_ble_eq_true rfl, Nat.le_of_ble_eq_true rfl⟩ ?_
                                            refine RO.callS (As := [.ref (a 0), .int (nI (lowN (g1 >>> (3 &&& 31)) (xn (Y2 5))))]) (rest := []) cx (c_L_name l G a AD Y2 (lowN (g1 >>> (3 &&& 31)) (xn (Y2 5))) hG2 (lowN_lt _ hmany)) gL_law_L_name rfl hd_L_name ⟨Nat.le_of_ble_eq_true rfl, Nat.le_of_ble_eq_true rfl⟩ hK hN hP rfl hl.1 rfl (Nat.le_of_ble_eq_true rfl) dL_law_345 ⟨Nat.le_of_ble_eq_true rfl, Nat.le_of_ble_eq_true rfl⟩ ?_
                                            refine nv_ifz (b := true) (tgt := 369) cx dL_law_348 (by decide) (fun c_15 => ?_) (fun c_15 => ?_)
                                            · exact absurd c_15 (by decide)
                                            · refine lv_aload_n cx.1 cx.2.1 dL_law_351 rfl (lv_at hl 4 rfl) ?_
                                              refine lv_iload cx.1 cx.2.1 dL_law_352 (lv_at hl 1 rfl) ?_
                                              refine lv_iload cx.1 cx.2.1 dL_law_354 (lv_at hl 0 rfl) ?_
                                              refine RO.callS (As := [.int h1, .int (nI (xn (Y2 5)))]) (rest := [.ref (a 0)]) cx (c_L_low l G h1 (xn (Y2 5)) hmany (by omega)) gL_law_L_low rfl hd_L_low ⟨Nat.le_of_ble_eq_true rfl, Nat.le_of_ble_eq_true rfl⟩ hK hN va_P.nil rfl hl.1 rfl (Nat.le_of_ble_eq_true rfl) dL_law_356 ⟨Nat.le_of_ble_eq_true rfl, Nat.le_of_ble_eq_true rfl⟩ ?_
                                              refine lv_iload cx.1 cx.2.1 dL_law_359 (lv_at hl 1 rfl) ?_
                                              refine lv_iconst (v := nI 5) cx.1 cx.2.1 dL_law_361 (by decide) ?_
                                              refine lv_ishr (x := h1) (y := 5) cx.1 cx.2.1 dL_law_362 ?_
                                              refine RO.callS (As := [.ref (a 0), .int (nI (lowN h1 (xn (Y2 5)))), .int (h1 >>> (5 &&& 31))]) (rest := []) cx (c_L_points l G a AD Y2 (lowN h1 (xn (Y2 5))) (h1 >>> (5 &&& 31)) hG2 (lowN_lt _ hmany)) gL_law_L_points rfl hd_L_points ⟨Nat.le_of_ble_eq_true rfl, Nat.le_of_ble_eq_true rfl⟩ hK hN hP rfl hl.1 rfl (Nat.le_of_ble_eq_true rfl) dL_law_363 ⟨Nat.le_of_ble_eq_true rfl, Nat.le_of_ble_eq_true rfl⟩ ?_
                                              refine nv_ifnz (b := true) (tgt := 371) cx dL_law_366 (by decide) (fun c_16 => ?_) (fun c_16 => ?_)
                                              · refine lv_iinc (v := nI (i + 1)) (lv' := [(2, .int (nI (i + 1))), (11, .int (nI (xn (Y2 5)))), (4, .int h1), (3, .int g1), (0, .ref b), (1, .ref (a 0)), (9, .int (nI 1))]) cx.1 cx.2.1 dL_law_371 hl (k := 5) rfl (show nI i + Int32.ofInt 1 = nI (i + 1) from nI_add i 1) (by decide) rfl (fun ls hl => ?_)
                                                refine lv_goto (tgt := 93) cx.1 cx.2.1 dL_law_374 (by decide) ?_
                                                exact ih93 (i + 1) Y2 (by omega) (by omega) hG2 _ _ hP hD hS ls (lv_sub hl [4, 5, 0] rfl)
                                              · exact absurd c_16 (by decide)
                                        · exact absurd c_13 (by decide)
                                    refine nv_if_ne (a := xn (Y2 5)) (tgt := 308) cx dL_law_301 (by decide) (by omega) (fun c_17 => ?_) (fun c_17 => ?_)
                                    · have hm9 : ¬ xn (Y2 5) = 0 := c_17
                                      refine lv_iload_n cx.1 cx.2.1 dL_law_308 rfl (lv_at hl 2 rfl) ?_
                                      refine lv_iconst (v := nI 2) cx.1 cx.2.1 dL_law_309 (by decide) ?_
                                      refine lv_ishr (x := g1) (y := 2) cx.1 cx.2.1 dL_law_310 ?_
                                      refine lv_iload cx.1 cx.2.1 dL_law_311 (lv_at hl 0 rfl) ?_
                                      refine RO.callS (As := [.int (g1 >>> (2 &&& 31)), .int (nI (xn (Y2 5)))]) (rest := [.ref (a 0)]) cx (c_L_low l G (g1 >>> (2 &&& 31)) (xn (Y2 5)) (by omega) (by omega)) gL_law_L_low rfl hd_L_low ⟨Nat.le_of_ble_eq_true rfl, Nat.le_of_ble_eq_true rfl⟩ hK hN va_P.nil rfl hl.1 rfl (Nat.le_of_ble_eq_true rfl) dL_law_313 ⟨Nat.le_of_ble_eq_true rfl, Nat.le_of_ble_eq_true rfl⟩ ?_
                                      exact jn301 (lowN (g1 >>> (2 &&& 31)) (xn (Y2 5))) ls (by first | exact fun q => absurd q (by omega) | exact fun q => lowN_lt _ q) hl
                                    · refine lv_iconst (v := nI 0) cx.1 cx.2.1 dL_law_304 (by decide) ?_
                                      refine lv_goto (tgt := 316) cx.1 cx.2.1 dL_law_305 (by decide) ?_
                                      exact jn301 0 ls (by first | exact fun q => absurd q (by omega) | exact fun q => lowN_lt _ q) hl
                                refine lv_if_ne (x := h1 &&& 3072) (tgt := 286) cx.1 cx.2.1 dL_law_230 (by decide) (fun c_18 => ?_) (fun c_18 => ?_)
                                · exact jn230 Y1 ls H locs hP hD hS (by first | exact hG3 | exact sp1.1) (lv_sub hl [4, 5, 6, 7, 8, 9] rfl)
                                · have hq51 := sp1.1.h.q5
                                  have jn233 : ∀ (ls : Array Slot), RC Y Y1 → lv_has ls 12 [(10, .int (nI (lstN (yq Y)))), (7, .long (dig Y)), (6, .int (nI (yq Y))), (5, .int (nI so)), (4, .int h1), (3, .int g1), (0, .ref b), (1, .ref (a 0)), (2, .int (nI i)), (9, .int (nI 1))] → W p l e room_1 s m #[Value.ref b] below meth c H locs 61 2910 Zz (F0 m 260 ls []) := by
                                    intro  ls hrec hl
                                    refine lv_aload_n cx.1 cx.2.1 dL_law_260 rfl (lv_at hl 7 rfl) ?_
                                    refine WR.callV (As := []) (rest := []) cx (c_X6_undo l G a AD Y1 sp1.1.h sp1.1.all) gL_law_X6_undo rfl hd_X6_undo ⟨Nat.le_of_ble_eq_true rfl, Nat.le_of_ble_eq_true rfl⟩ (va_recv hK hP (ci := 5) (q0 := 0) rfl rfl) hK hN hP hD hS (fun _ h => wA_in hD h) rfl hl.1 rfl (Nat.le_of_ble_eq_true rfl) dL_law_261 ⟨Nat.le_of_ble_eq_true rfl, Nat.le_of_ble_eq_true rfl⟩ (fun H1 locs hP1 hk1 hS => ?_)
                                    have hP : va_P G.1 vwCl (plC G a AD ((yUndo Y1).2)) H1 := hP1
                                    have hD : va_D (fun q : Nat => s.heap.size ≤ q) (plC G a AD ((yUndo Y1).2)) := pl_Dput hD
                                    generalize H1 = H at hP hS ⊢
                                    clear hP1 hk1
                                    obtain ⟨Y3, e1, hG3, e5⟩ := u_rec hG sp1.1 hrec
                                    rw [e1] at hP hD ⊢
                                    have hP : va_P G.1 vwCl (plC G a AD Y3) H := hP
                                    have hD : va_D (fun q : Nat => s.heap.size ≤ q) (plC G a AD Y3) := hD
                                    refine nv_eqi (y := nI (lstN (yq Y))) rfl ?_
                                    refine lv_iload cx.1 cx.2.1 dL_law_264 (lv_at hl 0 rfl) ?_
                                    refine nv_icmp_ne (a := lstN (yq Y)) (b := lstN (yq Y)) (tgt := 283) cx dL_law_266 (by decide) (by omega) (by omega) (fun c_19 => ?_) (fun c_19 => ?_)
                                    · exact absurd rfl c_19
                                    · refine lv_aload_n cx.1 cx.2.1 dL_law_269 rfl (lv_at hl 7 rfl) ?_
                                      refine ROl.callS (As := [.ref (a 0)]) (rest := []) cx (c_L_digest l G a AD Y3 hG3) gL_law_L_digest rfl hd_L_digest ⟨Nat.le_of_ble_eq_true rfl, Nat.le_of_ble_eq_true rfl⟩ hK hN hP rfl hl.1 rfl (Nat.le_of_ble_eq_true rfl) dL_law_270 ⟨Nat.le_of_ble_eq_true rfl, Nat.le_of_ble_eq_true rfl⟩ ?_
                                      refine lv_lload cx.1 cx.2.1 dL_law_273 (lv_at hl 1 rfl) ?_
                                      refine W.lcmp (x := dig Y3) (y := dig Y) cx.1 cx.2.1 dL_law_275 ?_
                                      refine lv_if_ne (x := lg_cmp (dig Y3) (dig Y)) (tgt := 283) cx.1 cx.2.1 dL_law_276 (by decide) (fun c_20 => ?_) (fun c_20 => ?_)
                                      · exact absurd (dg_e e5) c_20
                                      · refine lv_iconst (v := nI 1) cx.1 cx.2.1 dL_law_279 (by decide) ?_
                                        refine lv_goto (tgt := 284) cx.1 cx.2.1 dL_law_280 (by decide) ?_
                                        refine lv_istore (lv' := [(9, .int (nI 1)), (10, .int (nI (lstN (yq Y)))), (7, .long (dig Y)), (6, .int (nI (yq Y))), (5, .int (nI so)), (4, .int h1), (3, .int g1), (0, .ref b), (1, .ref (a 0)), (2, .int (nI i))]) cx.1 cx.2.1 dL_law_284 hl (by decide) rfl (fun ls hl => ?_)
                                        exact jn230 Y3 ls H locs hP hD hS (by first | exact hG3 | exact sp1.1) (lv_sub hl [5, 6, 7, 8, 9, 0] rfl)
                                  refine lv_aload_n cx.1 cx.2.1 dL_law_233 rfl (lv_at hl 7 rfl) ?_
                                  refine lv_bipush (v := nI 10) cx.1 cx.2.1 dL_law_234 (by decide) ?_
                                  refine RO.callV (As := [.int 10]) (rest := []) cx (c_X6_count l G a AD Y1 10 sp1.1.ok) gL_law_X6_count rfl hd_X6_count ⟨Nat.le_of_ble_eq_true rfl, Nat.le_of_ble_eq_true rfl⟩ (va_recv hK hP (ci := 5) (q0 := 0) rfl rfl) hK hN hP rfl hl.1 rfl (Nat.le_of_ble_eq_true rfl) dL_law_236 ⟨Nat.le_of_ble_eq_true rfl, Nat.le_of_ble_eq_true rfl⟩ ?_
                                  refine nv_eqi (y := nI (yq Y1)) (ct10 sp1.1.h) ?_
                                  refine lv_iload cx.1 cx.2.1 dL_law_239 (lv_at hl 2 rfl) ?_
                                  refine nv_icmp_ne (a := yq Y1) (b := yq Y) (tgt := 260) cx dL_law_241 (by decide) (by omega) (by omega) (fun c_21 => ?_) (fun c_21 => ?_)
                                  · exact jn233  ls (by first | exact rc_1 sp1 c_21 | exact rc_2 sp1 c_21) hl
                                  · refine lv_iload cx.1 cx.2.1 dL_law_244 (lv_at hl 2 rfl) ?_
                                    refine lv_iconst (v := nI 5) cx.1 cx.2.1 dL_law_246 (by decide) ?_
                                    refine nv_icmp_ne (a := yq Y) (b := 5) (tgt := 286) cx dL_law_247 (by decide) (by omega) (by omega) (fun c_22 => ?_) (fun c_22 => ?_)
                                    · exact jn230 Y1 ls H locs hP hD hS (by first | exact hG3 | exact sp1.1) (lv_sub hl [4, 5, 6, 7, 8, 9] rfl)
                                    · refine lv_aload_n cx.1 cx.2.1 dL_law_250 rfl (lv_at hl 7 rfl) ?_
                                      refine ROl.callS (As := [.ref (a 0)]) (rest := []) cx (c_L_digest l G a AD Y1 sp1.1) gL_law_L_digest rfl hd_L_digest ⟨Nat.le_of_ble_eq_true rfl, Nat.le_of_ble_eq_true rfl⟩ hK hN hP rfl hl.1 rfl (Nat.le_of_ble_eq_true rfl) dL_law_251 ⟨Nat.le_of_ble_eq_true rfl, Nat.le_of_ble_eq_true rfl⟩ ?_
                                      refine lv_lload cx.1 cx.2.1 dL_law_254 (lv_at hl 1 rfl) ?_
                                      refine W.lcmp (x := dig Y1) (y := dig Y) cx.1 cx.2.1 dL_law_256 ?_
                                      refine lv_if_eq (x := lg_cmp (dig Y1) (dig Y)) (tgt := 286) cx.1 cx.2.1 dL_law_257 (by decide) (fun c_23 => ?_) (fun c_23 => ?_)
                                      · exact jn230 Y1 ls H locs hP hD hS (by first | exact hG3 | exact sp1.1) (lv_sub hl [4, 5, 6, 7, 8, 9] rfl)
                                      · exact jn233  ls (by first | exact rc_1 sp1 c_23 | exact rc_2 sp1 c_23) hl
                            refine nv_icmp_ne (a := yq Y) (b := 5) (tgt := 215) cx dL_law_208 (by decide) (by omega) (by omega) (fun c_24 => ?_) (fun c_24 => ?_)
                            · refine lv_iload cx.1 cx.2.1 dL_law_215 (lv_at hl 1 rfl) ?_
                              have hls := lstN_le hq5
                              refine nv_eqi (y := nI (lstN (yq Y))) (by first | exact lst_5 c_24 | exact lst_n c_24) ?_
                              exact jn208  ls  hl
                            · refine lv_iconst (v := nI 4) cx.1 cx.2.1 dL_law_211 (by decide) ?_
                              refine lv_goto (tgt := 217) cx.1 cx.2.1 dL_law_212 (by decide) ?_
                              have hls := lstN_le hq5
                              refine nv_eqi (y := nI (lstN (yq Y))) (by first | exact lst_5 c_24 | exact lst_n c_24) ?_
                              exact jn208  ls  hl
                          refine lv_iconst (v := nI 1) cx.1 cx.2.1 dL_law_153 (by decide) ?_
                          refine lv_istore (lv' := [(9, .int (nI 1)), (7, .long (dig Y)), (6, .int (nI (yq Y))), (5, .int (nI so)), (4, .int h1), (3, .int g1), (0, .ref b), (1, .ref (a 0)), (2, .int (nI i))]) cx.1 cx.2.1 dL_law_154 hl (by decide) rfl (fun ls hl => ?_)
                          refine lv_iload cx.1 cx.2.1 dL_law_156 (lv_at hl 3 rfl) ?_
                          refine lv_iconst (v := nI 3) cx.1 cx.2.1 dL_law_158 (by decide) ?_
                          refine nv_icmp_ge (a := so) (b := 3) (tgt := 175) cx dL_law_159 (by decide) (by omega) (by omega) (fun c_25 => ?_) (fun c_25 => ?_)
                          · refine lv_iload cx.1 cx.2.1 dL_law_175 (lv_at hl 3 rfl) ?_
                            refine lv_bipush (v := nI 6) cx.1 cx.2.1 dL_law_177 (by decide) ?_
                            refine nv_icmp_ge (a := so) (b := 6) (tgt := 194) cx dL_law_179 (by decide) (by omega) (by omega) (fun c_26 => ?_) (fun c_26 => ?_)
                            · refine lv_aload_n cx.1 cx.2.1 dL_law_194 rfl (lv_at hl 7 rfl) ?_
                              refine lv_iload cx.1 cx.2.1 dL_law_195 (lv_at hl 3 rfl) ?_
                              refine lv_iload_n cx.1 cx.2.1 dL_law_197 rfl (lv_at hl 5 rfl) ?_
                              refine lv_iload cx.1 cx.2.1 dL_law_198 (lv_at hl 4 rfl) ?_
                              refine LW.callS (As := [.ref (a 0), .int (nI so), .int g1, .int h1]) (rest := []) cx (c_L_names l G a AD Y so g1 h1 hG (by omega)) gL_law_L_names rfl hd_L_names ⟨Nat.le_of_ble_eq_true rfl, Nat.le_of_ble_eq_true rfl⟩ hK hN hP hD hS (fun _ h => wA_in hD h) rfl hl.1 rfl (Nat.le_of_ble_eq_true rfl) dL_law_200 ⟨Nat.le_of_ble_eq_true rfl, Nat.le_of_ble_eq_true rfl⟩ (fun v9 w9 H1 locs hq9 hP1 hk1 hS => ?_)
                              obtain ⟨rfl, Y1, sp1, rfl⟩ := hq9
                              refine nv_eqi (y := nI 1) rfl ?_
                              have hP : va_P G.1 vwCl (plC G a AD Y1) H1 := hP1
                              have hD : va_D (fun q : Nat => s.heap.size ≤ q) (plC G a AD Y1) := pl_Dput hD
                              generalize H1 = H at hP hS ⊢
                              clear hP1 hk1
                              refine lv_istore (lv' := [(9, .int (nI 1)), (7, .long (dig Y)), (6, .int (nI (yq Y))), (5, .int (nI so)), (4, .int h1), (3, .int g1), (0, .ref b), (1, .ref (a 0)), (2, .int (nI i))]) cx.1 cx.2.1 dL_law_203 hl (by decide) rfl (fun ls hl => ?_)
                              exact jn153 Y1 ls H locs hP hD hS sp1 (lv_sub hl [1, 2, 3, 4, 5, 6, 7, 8, 0] rfl)
                            · refine lv_aload_n cx.1 cx.2.1 dL_law_182 rfl (lv_at hl 7 rfl) ?_
                              refine lv_iload_n cx.1 cx.2.1 dL_law_183 rfl (lv_at hl 5 rfl) ?_
                              refine lv_iload cx.1 cx.2.1 dL_law_184 (lv_at hl 4 rfl) ?_
                              refine LW.callS (As := [.ref (a 0), .int g1, .int h1]) (rest := []) cx (c_L_adjusts l G a AD Y g1 h1 hG) gL_law_L_adjusts rfl hd_L_adjusts ⟨Nat.le_of_ble_eq_true rfl, Nat.le_of_ble_eq_true rfl⟩ hK hN hP hD hS (fun _ h => wA_in hD h) rfl hl.1 rfl (Nat.le_of_ble_eq_true rfl) dL_law_186 ⟨Nat.le_of_ble_eq_true rfl, Nat.le_of_ble_eq_true rfl⟩ (fun v9 w9 H1 locs hq9 hP1 hk1 hS => ?_)
                              obtain ⟨rfl, Y1, sp1, rfl⟩ := hq9
                              refine nv_eqi (y := nI 1) rfl ?_
                              have hP : va_P G.1 vwCl (plC G a AD Y1) H1 := hP1
                              have hD : va_D (fun q : Nat => s.heap.size ≤ q) (plC G a AD Y1) := pl_Dput hD
                              generalize H1 = H at hP hS ⊢
                              clear hP1 hk1
                              refine lv_istore (lv' := [(9, .int (nI 1)), (7, .long (dig Y)), (6, .int (nI (yq Y))), (5, .int (nI so)), (4, .int h1), (3, .int g1), (0, .ref b), (1, .ref (a 0)), (2, .int (nI i))]) cx.1 cx.2.1 dL_law_189 hl (by decide) rfl (fun ls hl => ?_)
                              refine lv_goto (tgt := 205) cx.1 cx.2.1 dL_law_191 (by decide) ?_
                              exact jn153 Y1 ls H locs hP hD hS sp1 (lv_sub hl [1, 2, 3, 4, 5, 6, 7, 8, 0] rfl)
                          · refine lv_aload_n cx.1 cx.2.1 dL_law_162 rfl (lv_at hl 7 rfl) ?_
                            refine lv_iload cx.1 cx.2.1 dL_law_163 (lv_at hl 3 rfl) ?_
                            refine lv_iload cx.1 cx.2.1 dL_law_165 (lv_at hl 4 rfl) ?_
                            refine LW.callS (As := [.ref (a 0), .int (nI so), .int h1]) (rest := []) cx (c_L_plate l G a AD Y so h1 hG (by omega)) gL_law_L_plate rfl hd_L_plate ⟨Nat.le_of_ble_eq_true rfl, Nat.le_of_ble_eq_true rfl⟩ hK hN hP hD hS (fun _ h => wA_in hD h) rfl hl.1 rfl (Nat.le_of_ble_eq_true rfl) dL_law_167 ⟨Nat.le_of_ble_eq_true rfl, Nat.le_of_ble_eq_true rfl⟩ (fun v9 w9 H1 locs hq9 hP1 hk1 hS => ?_)
                            obtain ⟨rfl, Y1, sp1, rfl⟩ := hq9
                            refine nv_eqi (y := nI 1) rfl ?_
                            have hP : va_P G.1 vwCl (plC G a AD Y1) H1 := hP1
                            have hD : va_D (fun q : Nat => s.heap.size ≤ q) (plC G a AD Y1) := pl_Dput hD
                            generalize H1 = H at hP hS ⊢
                            clear hP1 hk1
                            refine lv_istore (lv' := [(9, .int (nI 1)), (7, .long (dig Y)), (6, .int (nI (yq Y))), (5, .int (nI so)), (4, .int h1), (3, .int g1), (0, .ref b), (1, .ref (a 0)), (2, .int (nI i))]) cx.1 cx.2.1 dL_law_170 hl (by decide) rfl (fun ls hl => ?_)
                            refine lv_goto (tgt := 205) cx.1 cx.2.1 dL_law_172 (by decide) ?_
                            exact jn153 Y1 ls H locs hP hD hS sp1 (lv_sub hl [1, 2, 3, 4, 5, 6, 7, 8, 0] rfl)
                        refine nv_icmp_ge (a := i) (b := 2) (tgt := 128) cx dL_law_120 (by decide) (by omega) (by omega) (fun c_27 => ?_) (fun c_27 => ?_)
                        · refine lv_iload_n cx.1 cx.2.1 dL_law_128 rfl (lv_at hl 1 rfl) ?_
                          refine lv_bipush (v := nI 9) cx.1 cx.2.1 dL_law_129 (by decide) ?_
                          refine lv_ishr (x := g1) (y := 9) cx.1 cx.2.1 dL_law_131 ?_
                          refine lv_bipush (v := nI 15) cx.1 cx.2.1 dL_law_132 (by decide) ?_
                          refine RO.callS (As := [.int (g1 >>> (9 &&& 31)), .int (nI 15)]) (rest := []) cx (c_L_low l G (g1 >>> (9 &&& 31)) 15 (by decide) (by decide)) gL_law_L_low rfl hd_L_low ⟨Nat.le_of_ble_eq_true rfl, Nat.le_of_ble_eq_true rfl⟩ hK hN va_P.nil rfl hl.1 rfl (Nat.le_of_ble_eq_true rfl) dL_law_134 ⟨Nat.le_of_ble_eq_true rfl, Nat.le_of_ble_eq_true rfl⟩ ?_
                          exact jn120 (lowN (g1 >>> (9 &&& 31)) 15) ls (by first | omega | exact lowN_lt _ (by decide)) hl
                        · refine lv_bipush (v := nI 6) cx.1 cx.2.1 dL_law_123 (by decide) ?_
                          refine lv_goto (tgt := 137) cx.1 cx.2.1 dL_law_125 (by decide) ?_
                          exact jn120 6 ls (by first | omega | exact lowN_lt _ (by decide)) hl
                  exact lp93 _ 0 YZ (Nat.lt_succ_self _) (by omega) Gd_Z H locs hP hD hS ls (lv_sub hl [2, 1, 0] rfl)
                · exact absurd rfl c_8
