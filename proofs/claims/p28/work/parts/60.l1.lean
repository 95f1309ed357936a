/-! ===== specs_l1: laid by program (wip/p28/lay28.py) ===== -/
theorem fw_L_low_k8 : (Cond.constant RL 8 (2147483647)) ∈ wsL_low := List.mem_of_getElem? (i := 1) rfl
set_option maxHeartbeats 4000000 in
set_option maxRecDepth 100000 in
theorem c_L_low (l : Launch) (G : GG)  (v : Int32) (mo : Nat) (h0 : 0 < mo) (hm : mo < 2147483648) : RO l yL_low wsL_low 0 0 G ([]) [.int v, .int (nI mo)] (nI (lowN v mo)) := by
  refine RO.start (cc := cL_low) (maxL := 2) (ret := (some .int)) (by decide) rfl (Nat.le_of_ble_eq_true rfl) ?_
  intro p e s m below meth c ls cx hr hlocks hK hN hP hl
  have cx : CallFix p m c cL_low 2 s [.int v, .int (nI mo)].toArray wsL_low RL := cx
  have hl : lv_has ls 2 [(0, .int v), (1, .int (nI mo))] := hl
  refine lv_iload_n cx.1 cx.2.1 dL_low_0 rfl (lv_at hl 0 rfl) ?_
  refine lv_ldc (v := (2147483647)) cx.1 cx.2.1 cx.2.2.2.1 (cx.2.2.2.2 _ fw_L_low_k8) dL_low_1 ?_
  refine lv_iand (x := v) (y := (2147483647)) cx.1 cx.2.1 dL_low_3 ?_
  refine nv_eqi (y := nI (v.toUInt32.toNat &&& 2147483647)) (and_lo v) ?_
  refine lv_iload_n cx.1 cx.2.1 dL_low_4 rfl (lv_at hl 1 rfl) ?_
  refine lv_irem (x := nI (v.toUInt32.toNat &&& 2147483647)) (y := nI mo) cx.1 cx.2.1 dL_low_5 (fun q => absurd ((nI_z hm).mp q) (by omega)) ?_
  refine nv_eqi (y := irem (nI (v.toUInt32.toNat &&& 2147483647)) (nI mo)) rfl ?_
  refine nv_eqi (y := nI (lowN v mo)) (low_e v h0 hm) ?_
  exact RO.ret (x := nI (lowN v mo)) cx hr hlocks dL_low_6 rfl

set_option maxHeartbeats 4000000 in
set_option maxRecDepth 100000 in
theorem c_L_down (l : Launch) (G : GG)  (a0 : Int32) (b0 : Int32) (hd : ¬ b0 = 0) : RO l yL_down wsL_down 0 0 G ([]) [.int a0, .int b0] (mDown a0 b0) := by
  refine RO.start (cc := cL_down) (maxL := 3) (ret := (some .int)) (by decide) rfl (Nat.le_of_ble_eq_true rfl) ?_
  intro p e s m below meth c ls cx hr hlocks hK hN hP hl
  have cx : CallFix p m c cL_down 3 s [.int a0, .int b0].toArray wsL_down RL := cx
  have hl : lv_has ls 3 [(0, .int a0), (1, .int b0)] := hl
  refine lv_iload_n cx.1 cx.2.1 dL_down_0 rfl (lv_at hl 0 rfl) ?_
  refine lv_iload_n cx.1 cx.2.1 dL_down_1 rfl (lv_at hl 1 rfl) ?_
  refine lv_idiv (x := a0) (y := b0) cx.1 cx.2.1 dL_down_2 hd ?_
  refine lv_istore_n (lv' := [(2, .int (a0 / b0)), (0, .int a0), (1, .int b0)]) cx.1 cx.2.1 dL_down_3 rfl hl (by decide) rfl (fun ls hl => ?_)
  refine lv_iload_n cx.1 cx.2.1 dL_down_4 rfl (lv_at hl 0 rfl) ?_
  refine lv_iload_n cx.1 cx.2.1 dL_down_5 rfl (lv_at hl 2 rfl) ?_
  refine lv_imul (x := a0 / b0) (y := b0) cx.1 cx.2.1 dL_down_6 ?_
  refine lv_iload_n cx.1 cx.2.1 dL_down_7 rfl (lv_at hl 1 rfl) ?_
  refine lv_icmp_le (x := (a0 / b0) * b0) (y := a0) (tgt := 17) cx.1 cx.2.1 dL_down_8 (by decide) (fun c_1 => ?_) (fun c_1 => ?_)
  · refine lv_iload_n cx.1 cx.2.1 dL_down_17 rfl (lv_at hl 0 rfl) ?_
    exact RO.ret (x := a0 / b0) cx hr hlocks dL_down_18 (by simp [mDown, c_1])
  · refine lv_iload_n cx.1 cx.2.1 dL_down_11 rfl (lv_at hl 0 rfl) ?_
    refine lv_iconst (v := nI 1) cx.1 cx.2.1 dL_down_12 (by decide) ?_
    refine lv_isub (x := a0 / b0) (y := 1) cx.1 cx.2.1 dL_down_13 ?_
    refine lv_goto (tgt := 18) cx.1 cx.2.1 dL_down_14 (by decide) ?_
    exact RO.ret (x := (a0 / b0) - 1) cx hr hlocks dL_down_18 (by simp [mDown, c_1])

theorem fw_L_digest_k9 : (Cond.constantLong RL 9 (107)) ∈ wsL_digest := List.mem_of_getElem? (i := 1) rfl
theorem fw_L_digest_k11 : (Cond.constantLong RL 11 (31)) ∈ wsL_digest := List.mem_of_getElem? (i := 2) rfl
theorem fw_L_digest_k23 : (Cond.constantLong RL 23 (49)) ∈ wsL_digest := List.mem_of_getElem? (i := 3) rfl
theorem fw_L_digest_k28 : (Cond.constantLong RL 28 (7)) ∈ wsL_digest := List.mem_of_getElem? (i := 4) rfl
set_option maxHeartbeats 4000000 in
set_option maxRecDepth 100000 in
theorem c_L_digest (l : Launch) (G : GG) (a : Nat → Nat) (AD : Nat → Nat → Nat) (Y : Nat → XS)  (hG : Gd Y) : ROl l yL_digest wsL_digest 7 166 G (plC G a AD Y) [.ref (a 0)] (dig Y) := by
  refine ROl.start (cc := cL_digest) (maxL := 4) (ret := (some .long)) (by decide) rfl (Nat.le_of_ble_eq_true rfl) ?_
  intro p e s m below meth c ls cx hr hlocks hK hN hP hl
  have cx : CallFix p m c cL_digest 4 s [.ref (a 0)].toArray wsL_digest RL := cx
  have hl : lv_has ls 4 [(0, .ref (a 0))] := hl
  have hok := hG.ok
  have hn20 := hok.n20
  have hp16 := hok.p16
  have hv := hG.v
  obtain ⟨f, hRl⟩ := hG.r
  refine lv_ldc2 (v := (107)) cx.1 cx.2.1 cx.2.2.2.1 (cx.2.2.2.2 _ fw_L_digest_k9) dL_digest_0 ?_
  refine lv_lstore_n (lv' := [(1, .long (107)), (0, .ref (a 0))]) cx.1 cx.2.1 dL_digest_3 rfl hl (by decide) rfl (fun ls hl => ?_)
  refine lv_iconst (v := nI 0) cx.1 cx.2.1 dL_digest_4 (by decide) ?_
  refine lv_istore_n (lv' := [(3, .int (nI 0)), (1, .long (107)), (0, .ref (a 0))]) cx.1 cx.2.1 dL_digest_5 rfl hl (by decide) rfl (fun ls hl => ?_)
  have lp6 : ∀ (r : Nat) (i : Nat) (hr9 : 10 - i < r) (hi : i ≤ 10) (ls : Array Slot), lv_has ls 4 [(0, .ref (a 0)), (1, .long (dgA Y i)), (3, .int (nI i))] → W p l e ({ frames := 7, cells := 0, slots := 0, locals := 166 } : Room) s m [.ref (a 0)].toArray below meth c s.heap [] 0 0 (MQ below (vp_Sl (fun r => r = (dig Y))) [.ref (a 0)].toArray s 0 0 (fun _ => False)) (F0 m 6 ls []) := by
    intro r
    induction r with
    | zero => intro i hr9; exact absurd hr9 (Nat.not_lt_zero _)
    | succ r ih6 =>
      intro i hr9 hi ls hl
      refine lv_iload_n cx.1 cx.2.1 dL_digest_6 rfl (lv_at hl 2 rfl) ?_
      refine lv_bipush (v := nI 10) cx.1 cx.2.1 dL_digest_7 (by decide) ?_
      refine nv_icmp_ge (a := i) (b := 10) (tgt := 31) cx dL_digest_9 (by decide) (by omega) (by omega) (fun c_1 => ?_) (fun c_1 => ?_)
      · refine lv_iconst (v := nI 0) cx.1 cx.2.1 dL_digest_31 (by decide) ?_
        refine lv_istore_n (lv' := [(3, .int (nI 0)), (0, .ref (a 0)), (1, .long (dgA Y i))]) cx.1 cx.2.1 dL_digest_32 rfl hl (by decide) rfl (fun ls hl => ?_)
        have lp33 : ∀ (r : Nat) (i : Nat) (hr9 : xn (Y 5) - i < r) (hi : i ≤ xn (Y 5)) (ls : Array Slot), lv_has ls 4 [(0, .ref (a 0)), (1, .long (dgB (Y 5) (dgA Y 10) i)), (3, .int (nI i))] → W p l e ({ frames := 7, cells := 0, slots := 0, locals := 166 } : Room) s m [.ref (a 0)].toArray below meth c s.heap [] 0 0 (MQ below (vp_Sl (fun r => r = (dig Y))) [.ref (a 0)].toArray s 0 0 (fun _ => False)) (F0 m 33 ls []) := by
          intro r
          induction r with
          | zero => intro i hr9; exact absurd hr9 (Nat.not_lt_zero _)
          | succ r ih33 =>
            intro i hr9 hi ls hl
            refine lv_iload_n cx.1 cx.2.1 dL_digest_33 rfl (lv_at hl 2 rfl) ?_
            refine lv_aload_n cx.1 cx.2.1 dL_digest_34 rfl (lv_at hl 0 rfl) ?_
            refine lv_iconst (v := nI 4) cx.1 cx.2.1 dL_digest_35 (by decide) ?_
            refine RO.callV (As := [.int 4]) (rest := [.int (nI i)]) cx (c_X6_count l G a AD Y 4 hok) gL_digest_X6_count rfl hd_X6_count ⟨Nat.le_of_ble_eq_true rfl, Nat.le_of_ble_eq_true rfl⟩ (va_recv hK hP (ci := 5) (q0 := 0) rfl rfl) hK hN hP rfl hl.1 rfl (Nat.le_of_ble_eq_true rfl) dL_digest_36 ⟨Nat.zero_le _, Nat.zero_le _⟩ ?_
            refine nv_eqi (y := nI (xn (Y 5))) (ct4 hok) ?_
            refine nv_icmp_ge (a := i) (b := xn (Y 5)) (tgt := 62) cx dL_digest_39 (by decide) (by omega) (by omega) (fun c_2 => ?_) (fun c_2 => ?_)
            · refine lv_iconst (v := nI 0) cx.1 cx.2.1 dL_digest_62 (by decide) ?_
              refine lv_istore_n (lv' := [(3, .int (nI 0)), (0, .ref (a 0)), (1, .long (dgB (Y 5) (dgA Y 10) i))]) cx.1 cx.2.1 dL_digest_63 rfl hl (by decide) rfl (fun ls hl => ?_)
              have lp64 : ∀ (r : Nat) (i : Nat) (hr9 : xp (Y 5) - i < r) (hi : i ≤ xp (Y 5)) (ls : Array Slot), lv_has ls 4 [(0, .ref (a 0)), (1, .long (dgC (Y 5) (dgB (Y 5) (dgA Y 10) (xn (Y 5))) i)), (3, .int (nI i))] → W p l e ({ frames := 7, cells := 0, slots := 0, locals := 166 } : Room) s m [.ref (a 0)].toArray below meth c s.heap [] 0 0 (MQ below (vp_Sl (fun r => r = (dig Y))) [.ref (a 0)].toArray s 0 0 (fun _ => False)) (F0 m 64 ls []) := by
                intro r
                induction r with
                | zero => intro i hr9; exact absurd hr9 (Nat.not_lt_zero _)
                | succ r ih64 =>
                  intro i hr9 hi ls hl
                  refine lv_iload_n cx.1 cx.2.1 dL_digest_64 rfl (lv_at hl 2 rfl) ?_
                  refine lv_aload_n cx.1 cx.2.1 dL_digest_65 rfl (lv_at hl 0 rfl) ?_
                  refine lv_bipush (v := nI 9) cx.1 cx.2.1 dL_digest_66 (by decide) ?_
                  refine RO.callV (As := [.int 9]) (rest := [.int (nI i)]) cx (c_X6_count l G a AD Y 9 hok) gL_digest_X6_count rfl hd_X6_count ⟨Nat.le_of_ble_eq_true rfl, Nat.le_of_ble_eq_true rfl⟩ (va_recv hK hP (ci := 5) (q0 := 0) rfl rfl) hK hN hP rfl hl.1 rfl (Nat.le_of_ble_eq_true rfl) dL_digest_68 ⟨Nat.zero_le _, Nat.zero_le _⟩ ?_
                  refine nv_eqi (y := nI (xp (Y 5))) (ct9 hok) ?_
                  refine nv_icmp_ge (a := i) (b := xp (Y 5)) (tgt := 118) cx dL_digest_71 (by decide) (by omega) (by omega) (fun c_3 => ?_) (fun c_3 => ?_)
                  · refine lv_ldc2 (v := (31)) cx.1 cx.2.1 cx.2.2.2.1 (cx.2.2.2.2 _ fw_L_digest_k11) dL_digest_118 ?_
                    refine lv_lload_n cx.1 cx.2.1 dL_digest_121 rfl (lv_at hl 1 rfl) ?_
                    refine lv_lmul (x := (31)) (y := dgC (Y 5) (dgB (Y 5) (dgA Y 10) (xn (Y 5))) i) cx.1 cx.2.1 dL_digest_122 ?_
                    refine lv_aload_n cx.1 cx.2.1 dL_digest_123 rfl (lv_at hl 0 rfl) ?_
                    refine RO.callV (As := []) (rest := [.long ((31) * (dgC (Y 5) (dgB (Y 5) (dgA Y 10) (xn (Y 5))) i))]) cx (c_X6_size l G a AD Y hok) gL_digest_X6_size rfl hd_X6_size ⟨Nat.le_of_ble_eq_true rfl, Nat.le_of_ble_eq_true rfl⟩ (va_recv hK hP (ci := 5) (q0 := 0) rfl rfl) hK hN hP rfl hl.1 rfl (Nat.le_of_ble_eq_true rfl) dL_digest_124 ⟨Nat.zero_le _, Nat.zero_le _⟩ ?_
                    refine lv_i2l (x := xSize (Y 5)) (v := Int32.toInt64 (xSize (Y 5))) cx.1 cx.2.1 dL_digest_127 rfl ?_
                    refine lv_ladd (x := (31) * (dgC (Y 5) (dgB (Y 5) (dgA Y 10) (xn (Y 5))) i)) (y := Int32.toInt64 (xSize (Y 5))) cx.1 cx.2.1 dL_digest_128 ?_
                    exact ROl.ret (x := ((31) * (dgC (Y 5) (dgB (Y 5) (dgA Y 10) (xn (Y 5))) i)) + (Int32.toInt64 (xSize (Y 5)))) cx hr hlocks dL_digest_129 (by rw [show i = xp (Y 5) by omega]; rfl)
                  · refine lv_ldc2 (v := (31)) cx.1 cx.2.1 cx.2.2.2.1 (cx.2.2.2.2 _ fw_L_digest_k11) dL_digest_74 ?_
                    refine lv_lload_n cx.1 cx.2.1 dL_digest_77 rfl (lv_at hl 1 rfl) ?_
                    refine lv_lmul (x := (31)) (y := dgC (Y 5) (dgB (Y 5) (dgA Y 10) (xn (Y 5))) i) cx.1 cx.2.1 dL_digest_78 ?_
                    refine lv_ldc2 (v := (49)) cx.1 cx.2.1 cx.2.2.2.1 (cx.2.2.2.2 _ fw_L_digest_k23) dL_digest_79 ?_
                    refine lv_aload_n cx.1 cx.2.1 dL_digest_82 rfl (lv_at hl 0 rfl) ?_
                    refine lv_iload_n cx.1 cx.2.1 dL_digest_83 rfl (lv_at hl 2 rfl) ?_
                    refine lv_iconst (v := nI 0) cx.1 cx.2.1 dL_digest_84 (by decide) ?_
                    refine RO.callV (As := [.int (nI i), .int 0]) (rest := [.long (49), .long ((31) * (dgC (Y 5) (dgB (Y 5) (dgA Y 10) (xn (Y 5))) i))]) cx (c_X6_pair l G a AD Y (nI i) 0 hok) gL_digest_X6_pair rfl hd_X6_pair ⟨Nat.le_of_ble_eq_true rfl, Nat.le_of_ble_eq_true rfl⟩ (va_recv hK hP (ci := 5) (q0 := 0) rfl rfl) hK hN hP rfl hl.1 rfl (Nat.le_of_ble_eq_true rfl) dL_digest_85 ⟨Nat.zero_le _, Nat.zero_le _⟩ ?_
                    refine nv_eqi (y := Y 5 2 i) (pr0 hok (by omega)) ?_
                    refine lv_i2l (x := Y 5 2 i) (v := Int32.toInt64 (Y 5 2 i)) cx.1 cx.2.1 dL_digest_88 rfl ?_
                    refine lv_lmul (x := (49)) (y := Int32.toInt64 (Y 5 2 i)) cx.1 cx.2.1 dL_digest_89 ?_
                    refine lv_ladd (x := (31) * (dgC (Y 5) (dgB (Y 5) (dgA Y 10) (xn (Y 5))) i)) (y := (49) * (Int32.toInt64 (Y 5 2 i))) cx.1 cx.2.1 dL_digest_90 ?_
                    refine lv_ldc2 (v := (7)) cx.1 cx.2.1 cx.2.2.2.1 (cx.2.2.2.2 _ fw_L_digest_k28) dL_digest_91 ?_
                    refine lv_aload_n cx.1 cx.2.1 dL_digest_94 rfl (lv_at hl 0 rfl) ?_
                    refine lv_iload_n cx.1 cx.2.1 dL_digest_95 rfl (lv_at hl 2 rfl) ?_
                    refine lv_iconst (v := nI 1) cx.1 cx.2.1 dL_digest_96 (by decide) ?_
                    refine RO.callV (As := [.int (nI i), .int 1]) (rest := [.long (7), .long (((31) * (dgC (Y 5) (dgB (Y 5) (dgA Y 10) (xn (Y 5))) i)) + ((49) * (Int32.toInt64 (Y 5 2 i))))]) cx (c_X6_pair l G a AD Y (nI i) 1 hok) gL_digest_X6_pair rfl hd_X6_pair ⟨Nat.le_of_ble_eq_true rfl, Nat.le_of_ble_eq_true rfl⟩ (va_recv hK hP (ci := 5) (q0 := 0) rfl rfl) hK hN hP rfl hl.1 rfl (Nat.le_of_ble_eq_true rfl) dL_digest_97 ⟨Nat.zero_le _, Nat.zero_le _⟩ ?_
                    refine nv_eqi (y := Y 5 3 i) (pr1 hok (by omega)) ?_
                    refine lv_i2l (x := Y 5 3 i) (v := Int32.toInt64 (Y 5 3 i)) cx.1 cx.2.1 dL_digest_100 rfl ?_
                    refine lv_lmul (x := (7)) (y := Int32.toInt64 (Y 5 3 i)) cx.1 cx.2.1 dL_digest_101 ?_
                    refine lv_ladd (x := ((31) * (dgC (Y 5) (dgB (Y 5) (dgA Y 10) (xn (Y 5))) i)) + ((49) * (Int32.toInt64 (Y 5 2 i)))) (y := (7) * (Int32.toInt64 (Y 5 3 i))) cx.1 cx.2.1 dL_digest_102 ?_
                    refine lv_aload_n cx.1 cx.2.1 dL_digest_103 rfl (lv_at hl 0 rfl) ?_
                    refine lv_iload_n cx.1 cx.2.1 dL_digest_104 rfl (lv_at hl 2 rfl) ?_
                    refine lv_iconst (v := nI 2) cx.1 cx.2.1 dL_digest_105 (by decide) ?_
                    refine RO.callV (As := [.int (nI i), .int 2]) (rest := [.long ((((31) * (dgC (Y 5) (dgB (Y 5) (dgA Y 10) (xn (Y 5))) i)) + ((49) * (Int32.toInt64 (Y 5 2 i)))) + ((7) * (Int32.toInt64 (Y 5 3 i))))]) cx (c_X6_pair l G a AD Y (nI i) 2 hok) gL_digest_X6_pair rfl hd_X6_pair ⟨Nat.le_of_ble_eq_true rfl, Nat.le_of_ble_eq_true rfl⟩ (va_recv hK hP (ci := 5) (q0 := 0) rfl rfl) hK hN hP rfl hl.1 rfl (Nat.le_of_ble_eq_true rfl) dL_digest_106 ⟨Nat.zero_le _, Nat.zero_le _⟩ ?_
                    refine nv_eqi (y := Y 5 4 i) (pr2 hok (by omega)) ?_
                    refine lv_i2l (x := Y 5 4 i) (v := Int32.toInt64 (Y 5 4 i)) cx.1 cx.2.1 dL_digest_109 rfl ?_
                    refine lv_ladd (x := (((31) * (dgC (Y 5) (dgB (Y 5) (dgA Y 10) (xn (Y 5))) i)) + ((49) * (Int32.toInt64 (Y 5 2 i)))) + ((7) * (Int32.toInt64 (Y 5 3 i)))) (y := Int32.toInt64 (Y 5 4 i)) cx.1 cx.2.1 dL_digest_110 ?_
                    refine lv_lstore_n (lv' := [(1, .long (((((31) * (dgC (Y 5) (dgB (Y 5) (dgA Y 10) (xn (Y 5))) i)) + ((49) * (Int32.toInt64 (Y 5 2 i)))) + ((7) * (Int32.toInt64 (Y 5 3 i)))) + (Int32.toInt64 (Y 5 4 i)))), (0, .ref (a 0)), (3, .int (nI i))]) cx.1 cx.2.1 dL_digest_111 rfl hl (by decide) rfl (fun ls hl => ?_)
                    refine lv_iinc (v := nI (i + 1)) (lv' := [(3, .int (nI (i + 1))), (1, .long (((((31) * (dgC (Y 5) (dgB (Y 5) (dgA Y 10) (xn (Y 5))) i)) + ((49) * (Int32.toInt64 (Y 5 2 i)))) + ((7) * (Int32.toInt64 (Y 5 3 i)))) + (Int32.toInt64 (Y 5 4 i)))), (0, .ref (a 0))]) cx.1 cx.2.1 dL_digest_112 hl (k := 2) rfl (show nI i + Int32.ofInt 1 = nI (i + 1) from nI_add i 1) (by decide) rfl (fun ls hl => ?_)
                    refine lv_goto (tgt := 64) cx.1 cx.2.1 dL_digest_115 (by decide) ?_
                    exact ih64 (i + 1) (by omega) (by omega) ls (lv_sub hl [2, 1, 0] rfl)
              exact lp64 _ 0 (Nat.lt_succ_self _) (by omega) ls (lv_sub hl [1, 2, 0] (by rw [show i = xn (Y 5) by omega]; rfl))
            · refine lv_ldc2 (v := (31)) cx.1 cx.2.1 cx.2.2.2.1 (cx.2.2.2.2 _ fw_L_digest_k11) dL_digest_42 ?_
              refine lv_lload_n cx.1 cx.2.1 dL_digest_45 rfl (lv_at hl 1 rfl) ?_
              refine lv_lmul (x := (31)) (y := dgB (Y 5) (dgA Y 10) i) cx.1 cx.2.1 dL_digest_46 ?_
              refine lv_aload_n cx.1 cx.2.1 dL_digest_47 rfl (lv_at hl 0 rfl) ?_
              refine lv_iload_n cx.1 cx.2.1 dL_digest_48 rfl (lv_at hl 2 rfl) ?_
              refine lv_iconst (v := nI 1) cx.1 cx.2.1 dL_digest_49 (by decide) ?_
              refine RO.callV (As := [.int (nI i), .int 1]) (rest := [.long ((31) * (dgB (Y 5) (dgA Y 10) i))]) cx (c_X6_name l G a AD Y (nI i) 1 hok) gL_digest_X6_name rfl hd_X6_name ⟨Nat.le_of_ble_eq_true rfl, Nat.le_of_ble_eq_true rfl⟩ (va_recv hK hP (ci := 5) (q0 := 0) rfl rfl) hK hN hP rfl hl.1 rfl (Nat.le_of_ble_eq_true rfl) dL_digest_50 ⟨Nat.zero_le _, Nat.zero_le _⟩ ?_
              refine nv_eqi (y := xU (Y 5) i) (nm1 hok (by omega)) ?_
              refine lv_i2l (x := xU (Y 5) i) (v := Int32.toInt64 (xU (Y 5) i)) cx.1 cx.2.1 dL_digest_53 rfl ?_
              refine lv_ladd (x := (31) * (dgB (Y 5) (dgA Y 10) i)) (y := Int32.toInt64 (xU (Y 5) i)) cx.1 cx.2.1 dL_digest_54 ?_
              refine lv_lstore_n (lv' := [(1, .long (((31) * (dgB (Y 5) (dgA Y 10) i)) + (Int32.toInt64 (xU (Y 5) i)))), (0, .ref (a 0)), (3, .int (nI i))]) cx.1 cx.2.1 dL_digest_55 rfl hl (by decide) rfl (fun ls hl => ?_)
              refine lv_iinc (v := nI (i + 1)) (lv' := [(3, .int (nI (i + 1))), (1, .long (((31) * (dgB (Y 5) (dgA Y 10) i)) + (Int32.toInt64 (xU (Y 5) i)))), (0, .ref (a 0))]) cx.1 cx.2.1 dL_digest_56 hl (k := 2) rfl (show nI i + Int32.ofInt 1 = nI (i + 1) from nI_add i 1) (by decide) rfl (fun ls hl => ?_)
              refine lv_goto (tgt := 33) cx.1 cx.2.1 dL_digest_59 (by decide) ?_
              exact ih33 (i + 1) (by omega) (by omega) ls (lv_sub hl [2, 1, 0] rfl)
        exact lp33 _ 0 (Nat.lt_succ_self _) (by omega) ls (lv_sub hl [1, 2, 0] (by rw [show i = 10 by omega]; rfl))
      · refine lv_ldc2 (v := (31)) cx.1 cx.2.1 cx.2.2.2.1 (cx.2.2.2.2 _ fw_L_digest_k11) dL_digest_12 ?_
        refine lv_lload_n cx.1 cx.2.1 dL_digest_15 rfl (lv_at hl 1 rfl) ?_
        refine lv_lmul (x := (31)) (y := dgA Y i) cx.1 cx.2.1 dL_digest_16 ?_
        refine lv_aload_n cx.1 cx.2.1 dL_digest_17 rfl (lv_at hl 0 rfl) ?_
        refine lv_iload_n cx.1 cx.2.1 dL_digest_18 rfl (lv_at hl 2 rfl) ?_
        refine RO.callV (As := [.int (nI i)]) (rest := [.long ((31) * (dgA Y i))]) cx (c_X6_count l G a AD Y (nI i) hok) gL_digest_X6_count rfl hd_X6_count ⟨Nat.le_of_ble_eq_true rfl, Nat.le_of_ble_eq_true rfl⟩ (va_recv hK hP (ci := 5) (q0 := 0) rfl rfl) hK hN hP rfl hl.1 rfl (Nat.le_of_ble_eq_true rfl) dL_digest_19 ⟨Nat.zero_le _, Nat.zero_le _⟩ ?_
        refine lv_i2l (x := yCount Y (nI i)) (v := Int32.toInt64 (yCount Y (nI i))) cx.1 cx.2.1 dL_digest_22 rfl ?_
        refine lv_ladd (x := (31) * (dgA Y i)) (y := Int32.toInt64 (yCount Y (nI i))) cx.1 cx.2.1 dL_digest_23 ?_
        refine lv_lstore_n (lv' := [(1, .long (((31) * (dgA Y i)) + (Int32.toInt64 (yCount Y (nI i))))), (0, .ref (a 0)), (3, .int (nI i))]) cx.1 cx.2.1 dL_digest_24 rfl hl (by decide) rfl (fun ls hl => ?_)
        refine lv_iinc (v := nI (i + 1)) (lv' := [(3, .int (nI (i + 1))), (1, .long (((31) * (dgA Y i)) + (Int32.toInt64 (yCount Y (nI i))))), (0, .ref (a 0))]) cx.1 cx.2.1 dL_digest_25 hl (k := 2) rfl (show nI i + Int32.ofInt 1 = nI (i + 1) from nI_add i 1) (by decide) rfl (fun ls hl => ?_)
        refine lv_goto (tgt := 6) cx.1 cx.2.1 dL_digest_28 (by decide) ?_
        exact ih6 (i + 1) (by omega) (by omega) ls (lv_sub hl [2, 1, 0] rfl)
  exact lp6 _ 0 (Nat.lt_succ_self _) (by omega) ls (lv_sub hl [2, 1, 0] rfl)

set_option maxHeartbeats 4000000 in
set_option maxRecDepth 100000 in
theorem c_L_pairs (l : Launch) (G : GG) (a : Nat → Nat) (AD : Nat → Nat → Nat) (Y : Nat → XS)  (hG : Gd Y) : RO l yL_pairs wsL_pairs 4 85 G (plC G a AD Y) [.ref (a 0)] (b2i true) := by
  refine RO.start (cc := cL_pairs) (maxL := 4) (ret := (some .boolean)) (by decide) rfl (Nat.le_of_ble_eq_true rfl) ?_
  intro p e s m below meth c ls cx hr hlocks hK hN hP hl
  have cx : CallFix p m c cL_pairs 4 s [.ref (a 0)].toArray wsL_pairs RL := cx
  have hl : lv_has ls 4 [(0, .ref (a 0))] := hl
  have hok := hG.ok
  have hn20 := hok.n20
  have hp16 := hok.p16
  have hv := hG.v
  obtain ⟨f, hRl⟩ := hG.r
  have hP9 := hRl.P.2
  refine lv_aload_n cx.1 cx.2.1 dL_pairs_0 rfl (lv_at hl 0 rfl) ?_
  refine lv_bipush (v := nI 9) cx.1 cx.2.1 dL_pairs_1 (by decide) ?_
  refine RO.callV (As := [.int 9]) (rest := []) cx (c_X6_count l G a AD Y 9 hok) gL_pairs_X6_count rfl hd_X6_count ⟨Nat.le_of_ble_eq_true rfl, Nat.le_of_ble_eq_true rfl⟩ (va_recv hK hP (ci := 5) (q0 := 0) rfl rfl) hK hN hP rfl hl.1 rfl (Nat.le_of_ble_eq_true rfl) dL_pairs_3 ⟨Nat.zero_le _, Nat.zero_le _⟩ ?_
  refine nv_eqi (y := nI (xp (Y 5))) (ct9 hok) ?_
  refine lv_istore_n (lv' := [(1, .int (nI (xp (Y 5)))), (0, .ref (a 0))]) cx.1 cx.2.1 dL_pairs_6 rfl hl (by decide) rfl (fun ls hl => ?_)
  refine lv_iconst (v := nI 0) cx.1 cx.2.1 dL_pairs_7 (by decide) ?_
  refine lv_istore_n (lv' := [(2, .int (nI 0)), (1, .int (nI (xp (Y 5)))), (0, .ref (a 0))]) cx.1 cx.2.1 dL_pairs_8 rfl hl (by decide) rfl (fun ls hl => ?_)
  have lp9 : ∀ (r : Nat) (i : Nat) (hr9 : xp (Y 5) - i < r) (hi : i ≤ xp (Y 5)) (ls : Array Slot), lv_has ls 4 [(0, .ref (a 0)), (1, .int (nI (xp (Y 5)))), (2, .int (nI i))] → W p l e ({ frames := 4, cells := 0, slots := 0, locals := 85 } : Room) s m [.ref (a 0)].toArray below meth c s.heap [] 0 0 (MQ below (vp_Si (fun r => r = (b2i true))) [.ref (a 0)].toArray s 0 0 (fun _ => False)) (F0 m 9 ls []) := by
    intro r
    induction r with
    | zero => intro i hr9; exact absurd hr9 (Nat.not_lt_zero _)
    | succ r ih9 =>
      intro i hr9 hi ls hl
      refine lv_iload_n cx.1 cx.2.1 dL_pairs_9 rfl (lv_at hl 2 rfl) ?_
      refine lv_iload_n cx.1 cx.2.1 dL_pairs_10 rfl (lv_at hl 1 rfl) ?_
      refine nv_icmp_ge (a := i) (b := xp (Y 5)) (tgt := 66) cx dL_pairs_11 (by decide) (by omega) (by omega) (fun c_1 => ?_) (fun c_1 => ?_)
      · refine lv_iload_n cx.1 cx.2.1 dL_pairs_66 rfl (lv_at hl 1 rfl) ?_
        refine lv_bipush (v := nI 16) cx.1 cx.2.1 dL_pairs_67 (by decide) ?_
        refine nv_icmp_gt (a := xp (Y 5)) (b := 16) (tgt := 114) cx dL_pairs_69 (by decide) (by omega) (by omega) (fun c_2 => ?_) (fun c_2 => ?_)
        · exact absurd c_2 (by omega)
        · refine lv_aload_n cx.1 cx.2.1 dL_pairs_72 rfl (lv_at hl 0 rfl) ?_
          refine lv_iload_n cx.1 cx.2.1 dL_pairs_73 rfl (lv_at hl 1 rfl) ?_
          refine lv_iconst (v := nI 0) cx.1 cx.2.1 dL_pairs_74 (by decide) ?_
          refine RO.callV (As := [.int (nI (xp (Y 5))), .int 0]) (rest := []) cx (c_X6_pair l G a AD Y (nI (xp (Y 5))) 0 hok) gL_pairs_X6_pair rfl hd_X6_pair ⟨Nat.le_of_ble_eq_true rfl, Nat.le_of_ble_eq_true rfl⟩ (va_recv hK hP (ci := 5) (q0 := 0) rfl rfl) hK hN hP rfl hl.1 rfl (Nat.le_of_ble_eq_true rfl) dL_pairs_75 ⟨Nat.zero_le _, Nat.zero_le _⟩ ?_
          refine nv_eqi (y := (-1005)) (prO hok) ?_
          refine lv_sipush (v := (-1005)) cx.1 cx.2.1 dL_pairs_78 (by decide) ?_
          refine lv_icmp_ne (x := (-1005)) (y := (-1005)) (tgt := 114) cx.1 cx.2.1 dL_pairs_81 (by decide) (fun c_3 => ?_) (fun c_3 => ?_)
          · exact absurd rfl c_3
          · refine lv_aload_n cx.1 cx.2.1 dL_pairs_84 rfl (lv_at hl 0 rfl) ?_
            refine lv_iconst (v := (-1)) cx.1 cx.2.1 dL_pairs_85 (by decide) ?_
            refine lv_iconst (v := nI 0) cx.1 cx.2.1 dL_pairs_86 (by decide) ?_
            refine RO.callV (As := [.int (-1), .int 0]) (rest := []) cx (c_X6_pair l G a AD Y (-1) 0 hok) gL_pairs_X6_pair rfl hd_X6_pair ⟨Nat.le_of_ble_eq_true rfl, Nat.le_of_ble_eq_true rfl⟩ (va_recv hK hP (ci := 5) (q0 := 0) rfl rfl) hK hN hP rfl hl.1 rfl (Nat.le_of_ble_eq_true rfl) dL_pairs_87 ⟨Nat.zero_le _, Nat.zero_le _⟩ ?_
            refine nv_eqi (y := (-1002)) (if_pos (Or.inl (by decide))) ?_
            refine lv_sipush (v := (-1002)) cx.1 cx.2.1 dL_pairs_90 (by decide) ?_
            refine lv_icmp_ne (x := (-1002)) (y := (-1002)) (tgt := 114) cx.1 cx.2.1 dL_pairs_93 (by decide) (fun c_4 => ?_) (fun c_4 => ?_)
            · exact absurd rfl c_4
            · refine lv_aload_n cx.1 cx.2.1 dL_pairs_96 rfl (lv_at hl 0 rfl) ?_
              refine lv_bipush (v := nI 97) cx.1 cx.2.1 dL_pairs_97 (by decide) ?_
              refine lv_bipush (v := nI 65) cx.1 cx.2.1 dL_pairs_99 (by decide) ?_
              refine RO.callV (As := [.int 97, .int 65]) (rest := []) cx (c_X6_adjustment l G a AD Y 97 65 hok) gL_pairs_X6_adjustment rfl hd_X6_adjustment ⟨Nat.le_of_ble_eq_true rfl, Nat.le_of_ble_eq_true rfl⟩ (va_recv hK hP (ci := 5) (q0 := 0) rfl rfl) hK hN hP rfl hl.1 rfl (Nat.le_of_ble_eq_true rfl) dL_pairs_101 ⟨Nat.zero_le _, Nat.zero_le _⟩ ?_
              refine nv_eqi (y := (-1001)) (if_neg (by decide)) ?_
              refine lv_sipush (v := (-1001)) cx.1 cx.2.1 dL_pairs_104 (by decide) ?_
              refine lv_icmp_ne (x := (-1001)) (y := (-1001)) (tgt := 114) cx.1 cx.2.1 dL_pairs_107 (by decide) (fun c_5 => ?_) (fun c_5 => ?_)
              · exact absurd rfl c_5
              · refine lv_iconst (v := nI 1) cx.1 cx.2.1 dL_pairs_110 (by decide) ?_
                refine lv_goto (tgt := 115) cx.1 cx.2.1 dL_pairs_111 (by decide) ?_
                exact RO.retz (b := true) (x := 1) cx hr hlocks dL_pairs_115 (by rfl) rfl
      · refine lv_aload_n cx.1 cx.2.1 dL_pairs_14 rfl (lv_at hl 0 rfl) ?_
        refine lv_iload_n cx.1 cx.2.1 dL_pairs_15 rfl (lv_at hl 2 rfl) ?_
        refine lv_iconst (v := nI 2) cx.1 cx.2.1 dL_pairs_16 (by decide) ?_
        refine RO.callV (As := [.int (nI i), .int 2]) (rest := []) cx (c_X6_pair l G a AD Y (nI i) 2 hok) gL_pairs_X6_pair rfl hd_X6_pair ⟨Nat.le_of_ble_eq_true rfl, Nat.le_of_ble_eq_true rfl⟩ (va_recv hK hP (ci := 5) (q0 := 0) rfl rfl) hK hN hP rfl hl.1 rfl (Nat.le_of_ble_eq_true rfl) dL_pairs_17 ⟨Nat.zero_le _, Nat.zero_le _⟩ ?_
        refine nv_eqi (y := Y 5 4 i) (pr2 hok (by omega)) ?_
        refine lv_istore_n (lv' := [(3, .int (Y 5 4 i)), (0, .ref (a 0)), (1, .int (nI (xp (Y 5)))), (2, .int (nI i))]) cx.1 cx.2.1 dL_pairs_20 rfl hl (by decide) rfl (fun ls hl => ?_)
        refine lv_iload_n cx.1 cx.2.1 dL_pairs_21 rfl (lv_at hl 0 rfl) ?_
        refine lv_if_eq (x := Y 5 4 i) (tgt := 58) cx.1 cx.2.1 dL_pairs_22 (by decide) (fun c_6 => ?_) (fun c_6 => ?_)
        · exact absurd c_6 (hP9 i (by omega)).2.1
        · refine lv_iload_n cx.1 cx.2.1 dL_pairs_25 rfl (lv_at hl 0 rfl) ?_
          refine lv_bipush (v := (-3)) cx.1 cx.2.1 dL_pairs_26 (by decide) ?_
          refine lv_icmp_lt (x := Y 5 4 i) (y := (-3)) (tgt := 58) cx.1 cx.2.1 dL_pairs_28 (by decide) (fun c_7 => ?_) (fun c_7 => ?_)
          · exact absurd (Int32.lt_iff_toInt_lt.mp c_7) (Int.not_lt.mpr (hP9 i (by omega)).2.2.1)
          · refine lv_iload_n cx.1 cx.2.1 dL_pairs_31 rfl (lv_at hl 0 rfl) ?_
            refine lv_iconst (v := nI 3) cx.1 cx.2.1 dL_pairs_32 (by decide) ?_
            refine lv_icmp_gt (x := Y 5 4 i) (y := 3) (tgt := 58) cx.1 cx.2.1 dL_pairs_33 (by decide) (fun c_8 => ?_) (fun c_8 => ?_)
            · exact absurd (Int32.lt_iff_toInt_lt.mp c_8) (Int.not_lt.mpr (hP9 i (by omega)).2.2.2)
            · refine lv_aload_n cx.1 cx.2.1 dL_pairs_36 rfl (lv_at hl 1 rfl) ?_
              refine lv_aload_n cx.1 cx.2.1 dL_pairs_37 rfl (lv_at hl 1 rfl) ?_
              refine lv_iload_n cx.1 cx.2.1 dL_pairs_38 rfl (lv_at hl 3 rfl) ?_
              refine lv_iconst (v := nI 0) cx.1 cx.2.1 dL_pairs_39 (by decide) ?_
              refine RO.callV (As := [.int (nI i), .int 0]) (rest := [.ref (a 0)]) cx (c_X6_pair l G a AD Y (nI i) 0 hok) gL_pairs_X6_pair rfl hd_X6_pair ⟨Nat.le_of_ble_eq_true rfl, Nat.le_of_ble_eq_true rfl⟩ (va_recv hK hP (ci := 5) (q0 := 0) rfl rfl) hK hN hP rfl hl.1 rfl (Nat.le_of_ble_eq_true rfl) dL_pairs_40 ⟨Nat.zero_le _, Nat.zero_le _⟩ ?_
              refine nv_eqi (y := Y 5 2 i) (pr0 hok (by omega)) ?_
              refine lv_i2c (x := Y 5 2 i) (v := i2c (Y 5 2 i)) cx.1 cx.2.1 dL_pairs_43 rfl ?_
              refine nv_eqi (y := Y 5 2 i) (i2c_ok (hok.lc (by omega))) ?_
              refine lv_aload_n cx.1 cx.2.1 dL_pairs_44 rfl (lv_at hl 1 rfl) ?_
              refine lv_iload_n cx.1 cx.2.1 dL_pairs_45 rfl (lv_at hl 3 rfl) ?_
              refine lv_iconst (v := nI 1) cx.1 cx.2.1 dL_pairs_46 (by decide) ?_
              refine RO.callV (As := [.int (nI i), .int 1]) (rest := [.int (Y 5 2 i), .ref (a 0)]) cx (c_X6_pair l G a AD Y (nI i) 1 hok) gL_pairs_X6_pair rfl hd_X6_pair ⟨Nat.le_of_ble_eq_true rfl, Nat.le_of_ble_eq_true rfl⟩ (va_recv hK hP (ci := 5) (q0 := 0) rfl rfl) hK hN hP rfl hl.1 rfl (Nat.le_of_ble_eq_true rfl) dL_pairs_47 ⟨Nat.zero_le _, Nat.zero_le _⟩ ?_
              refine nv_eqi (y := Y 5 3 i) (pr1 hok (by omega)) ?_
              refine lv_i2c (x := Y 5 3 i) (v := i2c (Y 5 3 i)) cx.1 cx.2.1 dL_pairs_50 rfl ?_
              refine nv_eqi (y := Y 5 3 i) (i2c_ok (hok.rc (by omega))) ?_
              refine RO.callV (As := [.int (Y 5 2 i), .int (Y 5 3 i)]) (rest := []) cx (c_X6_adjustment l G a AD Y (Y 5 2 i) (Y 5 3 i) hok) gL_pairs_X6_adjustment rfl hd_X6_adjustment ⟨Nat.le_of_ble_eq_true rfl, Nat.le_of_ble_eq_true rfl⟩ (va_recv hK hP (ci := 5) (q0 := 0) rfl rfl) hK hN hP rfl hl.1 rfl (Nat.le_of_ble_eq_true rfl) dL_pairs_51 ⟨Nat.zero_le _, Nat.zero_le _⟩ ?_
              refine nv_eqi (y := Y 5 4 i) (adA hv.P (by omega)) ?_
              refine lv_iload_n cx.1 cx.2.1 dL_pairs_54 rfl (lv_at hl 0 rfl) ?_
              refine lv_icmp_eq (x := Y 5 4 i) (y := Y 5 4 i) (tgt := 60) cx.1 cx.2.1 dL_pairs_55 (by decide) (fun c_9 => ?_) (fun c_9 => ?_)
              · refine lv_iinc (v := nI (i + 1)) (lv' := [(2, .int (nI (i + 1))), (3, .int (Y 5 4 i)), (0, .ref (a 0)), (1, .int (nI (xp (Y 5))))]) cx.1 cx.2.1 dL_pairs_60 hl (k := 3) rfl (show nI i + Int32.ofInt 1 = nI (i + 1) from nI_add i 1) (by decide) rfl (fun ls hl => ?_)
                refine lv_goto (tgt := 9) cx.1 cx.2.1 dL_pairs_63 (by decide) ?_
                exact ih9 (i + 1) (by omega) (by omega) ls (lv_sub hl [2, 3, 0] rfl)
              · exact absurd rfl c_9
  exact lp9 _ 0 (Nat.lt_succ_self _) (by omega) ls (lv_sub hl [2, 1, 0] rfl)
