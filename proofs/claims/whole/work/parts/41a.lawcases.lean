/-! ===== the law, case by case: laid by program (wip/whole/layl.py) ===== -/
set_option maxHeartbeats 4000000 in
set_option maxRecDepth 100000 in
theorem law_c0 {Zz : State → Prop} {p : Program} {l : Launch} {e : Env} {s : State} {m : MethodId} {below : List Frame} {meth : Method} {c : Code} {G : GG} {a : Nat → Nat} {AD : Nat → Nat → Nat} {ad : Nat → Nat} {b L i : Nat} {xs : Nat → Int32} (F : LF p s m c G a AD ad b L xs) (hL : L ≤ 2048) (hi : i + 4 ≤ L) (k : LQ Zz p l e s m below meth c G a AD ad b i 763) : LQ Zz p l e s m below meth c G a AD ad b i 148 := by
  obtain ⟨cx, hK, hN, hX, hbl, hDx0, hDm0, hdis⟩ := F
  intro Y M H locs ls h hPx hPm hS hl
  have hDx : va_D (fun q => s.heap.size ≤ q) (plC G a AD Y) := hDx0.fst rfl
  have hDm : va_D (fun q => s.heap.size ≤ q) (mdC G ad M) := hDm0.fst rfl
  have hdis1 : ∀ q, wA (mdC G ad M) q → ¬ wA (plC G a AD Y) q := fun q h1 h2 => hdis q (pl_wA0 h2) h1
  refine lv_aload_n cx.1 cx.2.1 dL_law_148 rfl (lv_at hl 2 rfl) ?_
  refine lv_aload_n cx.1 cx.2.1 dL_law_149 rfl (lv_at hl 3 rfl) ?_
  refine lv_iload_n cx.1 cx.2.1 dL_law_150 rfl (lv_at hl 0 rfl) ?_
  refine lv_iconst (v := nI 1) cx.1 cx.2.1 dL_law_151 (by decide) ?_
  refine nv_iadd cx dL_law_152 ?_
  refine nv_sld (L := L) cx hX hbl hS (show i + 1 < L by omega) hL dL_law_153 ?_
  refine lv_aload_n cx.1 cx.2.1 dL_law_154 rfl (lv_at hl 3 rfl) ?_
  refine lv_iload_n cx.1 cx.2.1 dL_law_155 rfl (lv_at hl 0 rfl) ?_
  refine lv_iconst (v := nI 2) cx.1 cx.2.1 dL_law_156 (by decide) ?_
  refine nv_iadd cx dL_law_157 ?_
  refine nv_sld (L := L) cx hX hbl hS (show i + 2 < L by omega) hL dL_law_158 ?_
  refine WR.callV (As := [.int (xs (i + 1)), .int (xs (i + 2))]) (rest := []) cx (c_X6_recut l G a AD Y (xs (i + 1)) (xs (i + 2)) h.h.1 h.x) gL_law_X6_recut rfl hd_X6_recut ⟨Nat.le_of_ble_eq_true rfl, Nat.le_of_ble_eq_true rfl⟩ (va_recv hK hPx (ci := 5) (q0 := 0) rfl rfl) hK hN hPx hDx hS (fun _ hq => wA_in hDx hq) rfl hl.1 rfl (Nat.le_of_ble_eq_true rfl) dL_law_159 ⟨Nat.le_of_ble_eq_true rfl, Nat.le_of_ble_eq_true rfl⟩ (fun H locs hP1 hk1 hS => ?_)
  have hPm := kept2 hPm hdis1 hk1
  have hPx : va_P G.1 vwCl (plC G a AD (yRecut Y (xs (i + 1)) (xs (i + 2))).2) H := hP1
  refine lv_aload_n cx.1 cx.2.1 dL_law_162 rfl (lv_at hl 1 rfl) ?_
  refine lv_aload_n cx.1 cx.2.1 dL_law_163 rfl (lv_at hl 3 rfl) ?_
  refine lv_iload_n cx.1 cx.2.1 dL_law_164 rfl (lv_at hl 0 rfl) ?_
  refine lv_iconst (v := nI 1) cx.1 cx.2.1 dL_law_165 (by decide) ?_
  refine nv_iadd cx dL_law_166 ?_
  refine nv_sld (L := L) cx hX hbl hS (show i + 1 < L by omega) hL dL_law_167 ?_
  refine lv_aload_n cx.1 cx.2.1 dL_law_168 rfl (lv_at hl 3 rfl) ?_
  refine lv_iload_n cx.1 cx.2.1 dL_law_169 rfl (lv_at hl 0 rfl) ?_
  refine lv_iconst (v := nI 2) cx.1 cx.2.1 dL_law_170 (by decide) ?_
  refine nv_iadd cx dL_law_171 ?_
  refine nv_sld (L := L) cx hX hbl hS (show i + 2 < L by omega) hL dL_law_172 ?_
  refine WR.callV (As := [.int (xs (i + 1)), .int (xs (i + 2))]) (rest := [.int _]) cx (c_X7_recut l G ad M (xs (i + 1)) (xs (i + 2)) h.h.K h.r.m) gL_law_X7_recut rfl hd_X7_recut ⟨Nat.le_of_ble_eq_true rfl, Nat.le_of_ble_eq_true rfl⟩ (va_recv hK hPm (ci := 6) (q0 := 0) rfl rfl) hK hN hPm hDm hS (fun _ hq => wA_in hDm hq) rfl hl.1 rfl (Nat.le_of_ble_eq_true rfl) dL_law_173 ⟨Nat.le_of_ble_eq_true rfl, Nat.le_of_ble_eq_true rfl⟩ (fun H locs hP1 hk1 hS => ?_)
  have hPx := kept2 hPx (fun q h1 h2 => hdis1 q h2 (pl_wA0 h1)) hk1
  have hPm : va_P G.1 vwCl (mdC G ad (mRecut M (xs (i + 1)) (xs (i + 2))).2) H := hP1
  have sm : Sm (yRecut Y (xs (i + 1)) (xs (i + 2))) (mRecut M (xs (i + 1)) (xs (i + 2))) := aRecut h _ _
  refine lv_icmp_eq (tgt := 763) cx.1 cx.2.1 dL_law_176 (by decide) (fun _ => ?_) (fun q => absurd sm.1 q)
  exact k _ _ _ _ _ sm.2 hPx hPm hS hl
set_option maxHeartbeats 4000000 in
set_option maxRecDepth 100000 in
theorem law_c1 {Zz : State → Prop} {p : Program} {l : Launch} {e : Env} {s : State} {m : MethodId} {below : List Frame} {meth : Method} {c : Code} {G : GG} {a : Nat → Nat} {AD : Nat → Nat → Nat} {ad : Nat → Nat} {b L i : Nat} {xs : Nat → Int32} (F : LF p s m c G a AD ad b L xs) (hL : L ≤ 2048) (hi : i + 4 ≤ L) (k : LQ Zz p l e s m below meth c G a AD ad b i 763) : LQ Zz p l e s m below meth c G a AD ad b i 181 := by
  obtain ⟨cx, hK, hN, hX, hbl, hDx0, hDm0, hdis⟩ := F
  intro Y M H locs ls h hPx hPm hS hl
  have hDx : va_D (fun q => s.heap.size ≤ q) (plC G a AD Y) := hDx0.fst rfl
  have hDm : va_D (fun q => s.heap.size ≤ q) (mdC G ad M) := hDm0.fst rfl
  have hdis1 : ∀ q, wA (mdC G ad M) q → ¬ wA (plC G a AD Y) q := fun q h1 h2 => hdis q (pl_wA0 h2) h1
  refine lv_aload_n cx.1 cx.2.1 dL_law_181 rfl (lv_at hl 2 rfl) ?_
  refine lv_aload_n cx.1 cx.2.1 dL_law_182 rfl (lv_at hl 3 rfl) ?_
  refine lv_iload_n cx.1 cx.2.1 dL_law_183 rfl (lv_at hl 0 rfl) ?_
  refine lv_iconst (v := nI 1) cx.1 cx.2.1 dL_law_184 (by decide) ?_
  refine nv_iadd cx dL_law_185 ?_
  refine nv_sld (L := L) cx hX hbl hS (show i + 1 < L by omega) hL dL_law_186 ?_
  refine WR.callV (As := [.int (xs (i + 1))]) (rest := []) cx (c_X6_setMargin l G a AD Y (xs (i + 1)) h.h.1 h.x) gL_law_X6_setMargin rfl hd_X6_setMargin ⟨Nat.le_of_ble_eq_true rfl, Nat.le_of_ble_eq_true rfl⟩ (va_recv hK hPx (ci := 5) (q0 := 0) rfl rfl) hK hN hPx hDx hS (fun _ hq => wA_in hDx hq) rfl hl.1 rfl (Nat.le_of_ble_eq_true rfl) dL_law_187 ⟨Nat.le_of_ble_eq_true rfl, Nat.le_of_ble_eq_true rfl⟩ (fun H locs hP1 hk1 hS => ?_)
  have hPm := kept2 hPm hdis1 hk1
  have hPx : va_P G.1 vwCl (plC G a AD (ySet Y 0 100 4 (xs (i + 1))).2) H := hP1
  refine lv_aload_n cx.1 cx.2.1 dL_law_190 rfl (lv_at hl 1 rfl) ?_
  refine lv_aload_n cx.1 cx.2.1 dL_law_191 rfl (lv_at hl 3 rfl) ?_
  refine lv_iload_n cx.1 cx.2.1 dL_law_192 rfl (lv_at hl 0 rfl) ?_
  refine lv_iconst (v := nI 1) cx.1 cx.2.1 dL_law_193 (by decide) ?_
  refine nv_iadd cx dL_law_194 ?_
  refine nv_sld (L := L) cx hX hbl hS (show i + 1 < L by omega) hL dL_law_195 ?_
  refine WR.callV (As := [.int (xs (i + 1))]) (rest := [.int _]) cx (c_X7_setMargin l G ad M (xs (i + 1)) h.h.K h.r.m) gL_law_X7_setMargin rfl hd_X7_setMargin ⟨Nat.le_of_ble_eq_true rfl, Nat.le_of_ble_eq_true rfl⟩ (va_recv hK hPm (ci := 6) (q0 := 0) rfl rfl) hK hN hPm hDm hS (fun _ hq => wA_in hDm hq) rfl hl.1 rfl (Nat.le_of_ble_eq_true rfl) dL_law_196 ⟨Nat.le_of_ble_eq_true rfl, Nat.le_of_ble_eq_true rfl⟩ (fun H locs hP1 hk1 hS => ?_)
  have hPx := kept2 hPx (fun q h1 h2 => hdis1 q h2 (pl_wA0 h1)) hk1
  have hPm : va_P G.1 vwCl (mdC G ad (mMar M (xs (i + 1))).2) H := hP1
  have sm : Sm (ySet Y 0 100 4 (xs (i + 1))) (mMar M (xs (i + 1))) := aMar h _
  refine lv_icmp_eq (tgt := 763) cx.1 cx.2.1 dL_law_199 (by decide) (fun _ => ?_) (fun q => absurd sm.1 q)
  exact k _ _ _ _ _ sm.2 hPx hPm hS hl
set_option maxHeartbeats 4000000 in
set_option maxRecDepth 100000 in
theorem law_c2 {Zz : State → Prop} {p : Program} {l : Launch} {e : Env} {s : State} {m : MethodId} {below : List Frame} {meth : Method} {c : Code} {G : GG} {a : Nat → Nat} {AD : Nat → Nat → Nat} {ad : Nat → Nat} {b L i : Nat} {xs : Nat → Int32} (F : LF p s m c G a AD ad b L xs) (hL : L ≤ 2048) (hi : i + 4 ≤ L) (k : LQ Zz p l e s m below meth c G a AD ad b i 763) : LQ Zz p l e s m below meth c G a AD ad b i 204 := by
  obtain ⟨cx, hK, hN, hX, hbl, hDx0, hDm0, hdis⟩ := F
  intro Y M H locs ls h hPx hPm hS hl
  have hDx : va_D (fun q => s.heap.size ≤ q) (plC G a AD Y) := hDx0.fst rfl
  have hDm : va_D (fun q => s.heap.size ≤ q) (mdC G ad M) := hDm0.fst rfl
  have hdis1 : ∀ q, wA (mdC G ad M) q → ¬ wA (plC G a AD Y) q := fun q h1 h2 => hdis q (pl_wA0 h2) h1
  refine lv_aload_n cx.1 cx.2.1 dL_law_204 rfl (lv_at hl 2 rfl) ?_
  refine lv_aload_n cx.1 cx.2.1 dL_law_205 rfl (lv_at hl 3 rfl) ?_
  refine lv_iload_n cx.1 cx.2.1 dL_law_206 rfl (lv_at hl 0 rfl) ?_
  refine lv_iconst (v := nI 1) cx.1 cx.2.1 dL_law_207 (by decide) ?_
  refine nv_iadd cx dL_law_208 ?_
  refine nv_sld (L := L) cx hX hbl hS (show i + 1 < L by omega) hL dL_law_209 ?_
  refine WR.callV (As := [.int (xs (i + 1))]) (rest := []) cx (c_X6_setColumns l G a AD Y (xs (i + 1)) h.h.1 h.x) gL_law_X6_setColumns rfl hd_X6_setColumns ⟨Nat.le_of_ble_eq_true rfl, Nat.le_of_ble_eq_true rfl⟩ (va_recv hK hPx (ci := 5) (q0 := 0) rfl rfl) hK hN hPx hDx hS (fun _ hq => wA_in hDx hq) rfl hl.1 rfl (Nat.le_of_ble_eq_true rfl) dL_law_210 ⟨Nat.le_of_ble_eq_true rfl, Nat.le_of_ble_eq_true rfl⟩ (fun H locs hP1 hk1 hS => ?_)
  have hPm := kept2 hPm hdis1 hk1
  have hPx : va_P G.1 vwCl (plC G a AD (ySet Y 1 3 5 (xs (i + 1))).2) H := hP1
  refine lv_aload_n cx.1 cx.2.1 dL_law_213 rfl (lv_at hl 1 rfl) ?_
  refine lv_aload_n cx.1 cx.2.1 dL_law_214 rfl (lv_at hl 3 rfl) ?_
  refine lv_iload_n cx.1 cx.2.1 dL_law_215 rfl (lv_at hl 0 rfl) ?_
  refine lv_iconst (v := nI 1) cx.1 cx.2.1 dL_law_216 (by decide) ?_
  refine nv_iadd cx dL_law_217 ?_
  refine nv_sld (L := L) cx hX hbl hS (show i + 1 < L by omega) hL dL_law_218 ?_
  refine WR.callV (As := [.int (xs (i + 1))]) (rest := [.int _]) cx (c_X7_setColumns l G ad M (xs (i + 1)) h.h.K h.r.m) gL_law_X7_setColumns rfl hd_X7_setColumns ⟨Nat.le_of_ble_eq_true rfl, Nat.le_of_ble_eq_true rfl⟩ (va_recv hK hPm (ci := 6) (q0 := 0) rfl rfl) hK hN hPm hDm hS (fun _ hq => wA_in hDm hq) rfl hl.1 rfl (Nat.le_of_ble_eq_true rfl) dL_law_219 ⟨Nat.le_of_ble_eq_true rfl, Nat.le_of_ble_eq_true rfl⟩ (fun H locs hP1 hk1 hS => ?_)
  have hPx := kept2 hPx (fun q h1 h2 => hdis1 q h2 (pl_wA0 h1)) hk1
  have hPm : va_P G.1 vwCl (mdC G ad (mColu M (xs (i + 1))).2) H := hP1
  have sm : Sm (ySet Y 1 3 5 (xs (i + 1))) (mColu M (xs (i + 1))) := aColu h _
  refine lv_icmp_eq (tgt := 763) cx.1 cx.2.1 dL_law_222 (by decide) (fun _ => ?_) (fun q => absurd sm.1 q)
  exact k _ _ _ _ _ sm.2 hPx hPm hS hl
set_option maxHeartbeats 4000000 in
set_option maxRecDepth 100000 in
theorem law_c3 {Zz : State → Prop} {p : Program} {l : Launch} {e : Env} {s : State} {m : MethodId} {below : List Frame} {meth : Method} {c : Code} {G : GG} {a : Nat → Nat} {AD : Nat → Nat → Nat} {ad : Nat → Nat} {b L i : Nat} {xs : Nat → Int32} (F : LF p s m c G a AD ad b L xs) (hL : L ≤ 2048) (hi : i + 4 ≤ L) (k : LQ Zz p l e s m below meth c G a AD ad b i 763) : LQ Zz p l e s m below meth c G a AD ad b i 227 := by
  obtain ⟨cx, hK, hN, hX, hbl, hDx0, hDm0, hdis⟩ := F
  intro Y M H locs ls h hPx hPm hS hl
  have hDx : va_D (fun q => s.heap.size ≤ q) (plC G a AD Y) := hDx0.fst rfl
  have hDm : va_D (fun q => s.heap.size ≤ q) (mdC G ad M) := hDm0.fst rfl
  have hdis1 : ∀ q, wA (mdC G ad M) q → ¬ wA (plC G a AD Y) q := fun q h1 h2 => hdis q (pl_wA0 h2) h1
  refine lv_aload_n cx.1 cx.2.1 dL_law_227 rfl (lv_at hl 2 rfl) ?_
  refine lv_aload_n cx.1 cx.2.1 dL_law_228 rfl (lv_at hl 3 rfl) ?_
  refine lv_iload_n cx.1 cx.2.1 dL_law_229 rfl (lv_at hl 0 rfl) ?_
  refine lv_iconst (v := nI 1) cx.1 cx.2.1 dL_law_230 (by decide) ?_
  refine nv_iadd cx dL_law_231 ?_
  refine nv_sld (L := L) cx hX hbl hS (show i + 1 < L by omega) hL dL_law_232 ?_
  refine lv_i2c cx.1 cx.2.1 dL_law_233 rfl ?_
  refine lv_aload_n cx.1 cx.2.1 dL_law_234 rfl (lv_at hl 3 rfl) ?_
  refine lv_iload_n cx.1 cx.2.1 dL_law_235 rfl (lv_at hl 0 rfl) ?_
  refine lv_iconst (v := nI 2) cx.1 cx.2.1 dL_law_236 (by decide) ?_
  refine nv_iadd cx dL_law_237 ?_
  refine nv_sld (L := L) cx hX hbl hS (show i + 2 < L by omega) hL dL_law_238 ?_
  refine lv_i2c cx.1 cx.2.1 dL_law_239 rfl ?_
  refine lv_aload_n cx.1 cx.2.1 dL_law_240 rfl (lv_at hl 3 rfl) ?_
  refine lv_iload_n cx.1 cx.2.1 dL_law_241 rfl (lv_at hl 0 rfl) ?_
  refine lv_iconst (v := nI 3) cx.1 cx.2.1 dL_law_242 (by decide) ?_
  refine nv_iadd cx dL_law_243 ?_
  refine nv_sld (L := L) cx hX hbl hS (show i + 3 < L by omega) hL dL_law_244 ?_
  refine WR.callV (As := [.int (((xs (i + 1)).toUInt32 % 65536).toInt32), .int (((xs (i + 2)).toUInt32 % 65536).toInt32), .int (xs (i + 3))]) (rest := []) cx (c_X6_adjust l G a AD Y (((xs (i + 1)).toUInt32 % 65536).toInt32) (((xs (i + 2)).toUInt32 % 65536).toInt32) (xs (i + 3)) h.h.1 h.x) gL_law_X6_adjust rfl hd_X6_adjust ⟨Nat.le_of_ble_eq_true rfl, Nat.le_of_ble_eq_true rfl⟩ (va_recv hK hPx (ci := 5) (q0 := 0) rfl rfl) hK hN hPx hDx hS (fun _ hq => wA_in hDx hq) rfl hl.1 rfl (Nat.le_of_ble_eq_true rfl) dL_law_245 ⟨Nat.le_of_ble_eq_true rfl, Nat.le_of_ble_eq_true rfl⟩ (fun H locs hP1 hk1 hS => ?_)
  have hPm := kept2 hPm hdis1 hk1
  have hPx : va_P G.1 vwCl (plC G a AD (yAdj Y (((xs (i + 1)).toUInt32 % 65536).toInt32) (((xs (i + 2)).toUInt32 % 65536).toInt32) (xs (i + 3))).2) H := hP1
  refine lv_aload_n cx.1 cx.2.1 dL_law_248 rfl (lv_at hl 1 rfl) ?_
  refine lv_aload_n cx.1 cx.2.1 dL_law_249 rfl (lv_at hl 3 rfl) ?_
  refine lv_iload_n cx.1 cx.2.1 dL_law_250 rfl (lv_at hl 0 rfl) ?_
  refine lv_iconst (v := nI 1) cx.1 cx.2.1 dL_law_251 (by decide) ?_
  refine nv_iadd cx dL_law_252 ?_
  refine nv_sld (L := L) cx hX hbl hS (show i + 1 < L by omega) hL dL_law_253 ?_
  refine lv_i2c cx.1 cx.2.1 dL_law_254 rfl ?_
  refine lv_aload_n cx.1 cx.2.1 dL_law_255 rfl (lv_at hl 3 rfl) ?_
  refine lv_iload_n cx.1 cx.2.1 dL_law_256 rfl (lv_at hl 0 rfl) ?_
  refine lv_iconst (v := nI 2) cx.1 cx.2.1 dL_law_257 (by decide) ?_
  refine nv_iadd cx dL_law_258 ?_
  refine nv_sld (L := L) cx hX hbl hS (show i + 2 < L by omega) hL dL_law_259 ?_
  refine lv_i2c cx.1 cx.2.1 dL_law_260 rfl ?_
  refine lv_aload_n cx.1 cx.2.1 dL_law_261 rfl (lv_at hl 3 rfl) ?_
  refine lv_iload_n cx.1 cx.2.1 dL_law_262 rfl (lv_at hl 0 rfl) ?_
  refine lv_iconst (v := nI 3) cx.1 cx.2.1 dL_law_263 (by decide) ?_
  refine nv_iadd cx dL_law_264 ?_
  refine nv_sld (L := L) cx hX hbl hS (show i + 3 < L by omega) hL dL_law_265 ?_
  refine WR.callV (As := [.int (((xs (i + 1)).toUInt32 % 65536).toInt32), .int (((xs (i + 2)).toUInt32 % 65536).toInt32), .int (xs (i + 3))]) (rest := [.int _]) cx (c_X7_adjust l G ad M (((xs (i + 1)).toUInt32 % 65536).toInt32) (((xs (i + 2)).toUInt32 % 65536).toInt32) (xs (i + 3)) h.h.K h.r.m) gL_law_X7_adjust rfl hd_X7_adjust ⟨Nat.le_of_ble_eq_true rfl, Nat.le_of_ble_eq_true rfl⟩ (va_recv hK hPm (ci := 6) (q0 := 0) rfl rfl) hK hN hPm hDm hS (fun _ hq => wA_in hDm hq) rfl hl.1 rfl (Nat.le_of_ble_eq_true rfl) dL_law_266 ⟨Nat.le_of_ble_eq_true rfl, Nat.le_of_ble_eq_true rfl⟩ (fun H locs hP1 hk1 hS => ?_)
  have hPx := kept2 hPx (fun q h1 h2 => hdis1 q h2 (pl_wA0 h1)) hk1
  have hPm : va_P G.1 vwCl (mdC G ad (mAdjT M (((xs (i + 1)).toUInt32 % 65536).toInt32) (((xs (i + 2)).toUInt32 % 65536).toInt32) (xs (i + 3))).2) H := hP1
  have sm : Sm (yAdj Y (((xs (i + 1)).toUInt32 % 65536).toInt32) (((xs (i + 2)).toUInt32 % 65536).toInt32) (xs (i + 3))) (mAdjT M (((xs (i + 1)).toUInt32 % 65536).toInt32) (((xs (i + 2)).toUInt32 % 65536).toInt32) (xs (i + 3))) := aAdj h _ _ _
  refine lv_icmp_eq (tgt := 763) cx.1 cx.2.1 dL_law_269 (by decide) (fun _ => ?_) (fun q => absurd sm.1 q)
  exact k _ _ _ _ _ sm.2 hPx hPm hS hl
set_option maxHeartbeats 4000000 in
set_option maxRecDepth 100000 in
theorem law_c4 {Zz : State → Prop} {p : Program} {l : Launch} {e : Env} {s : State} {m : MethodId} {below : List Frame} {meth : Method} {c : Code} {G : GG} {a : Nat → Nat} {AD : Nat → Nat → Nat} {ad : Nat → Nat} {b L i : Nat} {xs : Nat → Int32} (F : LF p s m c G a AD ad b L xs) (hL : L ≤ 2048) (hi : i + 4 ≤ L) (k : LQ Zz p l e s m below meth c G a AD ad b i 763) : LQ Zz p l e s m below meth c G a AD ad b i 274 := by
  obtain ⟨cx, hK, hN, hX, hbl, hDx0, hDm0, hdis⟩ := F
  intro Y M H locs ls h hPx hPm hS hl
  have hDx : va_D (fun q => s.heap.size ≤ q) (plC G a AD Y) := hDx0.fst rfl
  have hDm : va_D (fun q => s.heap.size ≤ q) (mdC G ad M) := hDm0.fst rfl
  have hdis1 : ∀ q, wA (mdC G ad M) q → ¬ wA (plC G a AD Y) q := fun q h1 h2 => hdis q (pl_wA0 h2) h1
  refine lv_aload_n cx.1 cx.2.1 dL_law_274 rfl (lv_at hl 2 rfl) ?_
  refine lv_aload_n cx.1 cx.2.1 dL_law_275 rfl (lv_at hl 3 rfl) ?_
  refine lv_iload_n cx.1 cx.2.1 dL_law_276 rfl (lv_at hl 0 rfl) ?_
  refine lv_iconst (v := nI 1) cx.1 cx.2.1 dL_law_277 (by decide) ?_
  refine nv_iadd cx dL_law_278 ?_
  refine nv_sld (L := L) cx hX hbl hS (show i + 1 < L by omega) hL dL_law_279 ?_
  refine lv_i2c cx.1 cx.2.1 dL_law_280 rfl ?_
  refine WR.callV (As := [.int (((xs (i + 1)).toUInt32 % 65536).toInt32)]) (rest := []) cx (c_X6_type l G a AD Y (((xs (i + 1)).toUInt32 % 65536).toInt32) h.t.1 (chOk_i2c _)) gL_law_X6_type rfl hd_X6_type ⟨Nat.le_of_ble_eq_true rfl, Nat.le_of_ble_eq_true rfl⟩ (va_recv hK hPx (ci := 5) (q0 := 0) rfl rfl) hK hN hPx hDx hS (fun _ hq => wA_in hDx hq) rfl hl.1 rfl (Nat.le_of_ble_eq_true rfl) dL_law_281 ⟨Nat.le_of_ble_eq_true rfl, Nat.le_of_ble_eq_true rfl⟩ (fun H locs hP1 hk1 hS => ?_)
  have hPm := kept2 hPm hdis1 hk1
  have hPx : va_P G.1 vwCl (plC G a AD (yType Y (((xs (i + 1)).toUInt32 % 65536).toInt32)).2) H := hP1
  refine lv_aload_n cx.1 cx.2.1 dL_law_284 rfl (lv_at hl 1 rfl) ?_
  refine lv_aload_n cx.1 cx.2.1 dL_law_285 rfl (lv_at hl 3 rfl) ?_
  refine lv_iload_n cx.1 cx.2.1 dL_law_286 rfl (lv_at hl 0 rfl) ?_
  refine lv_iconst (v := nI 1) cx.1 cx.2.1 dL_law_287 (by decide) ?_
  refine nv_iadd cx dL_law_288 ?_
  refine nv_sld (L := L) cx hX hbl hS (show i + 1 < L by omega) hL dL_law_289 ?_
  refine lv_i2c cx.1 cx.2.1 dL_law_290 rfl ?_
  refine WR.callV (As := [.int (((xs (i + 1)).toUInt32 % 65536).toInt32)]) (rest := [.int _]) cx (c_X7_type l G ad M (((xs (i + 1)).toUInt32 % 65536).toInt32) h.t.m (chOk_i2c _)) gL_law_X7_type rfl hd_X7_type ⟨Nat.le_of_ble_eq_true rfl, Nat.le_of_ble_eq_true rfl⟩ (va_recv hK hPm (ci := 6) (q0 := 0) rfl rfl) hK hN hPm hDm hS (fun _ hq => wA_in hDm hq) rfl hl.1 rfl (Nat.le_of_ble_eq_true rfl) dL_law_291 ⟨Nat.le_of_ble_eq_true rfl, Nat.le_of_ble_eq_true rfl⟩ (fun H locs hP1 hk1 hS => ?_)
  have hPx := kept2 hPx (fun q h1 h2 => hdis1 q h2 (pl_wA0 h1)) hk1
  have hPm : va_P G.1 vwCl (mdC G ad (mType M (((xs (i + 1)).toUInt32 % 65536).toInt32)).2) H := hP1
  have sm : Sm (yType Y (((xs (i + 1)).toUInt32 % 65536).toInt32)) (mType M (((xs (i + 1)).toUInt32 % 65536).toInt32)) := aType h (chOk_i2c _)
  refine lv_icmp_eq (tgt := 763) cx.1 cx.2.1 dL_law_294 (by decide) (fun _ => ?_) (fun q => absurd sm.1 q)
  exact k _ _ _ _ _ sm.2 hPx hPm hS hl
set_option maxHeartbeats 4000000 in
set_option maxRecDepth 100000 in
theorem law_c5 {Zz : State → Prop} {p : Program} {l : Launch} {e : Env} {s : State} {m : MethodId} {below : List Frame} {meth : Method} {c : Code} {G : GG} {a : Nat → Nat} {AD : Nat → Nat → Nat} {ad : Nat → Nat} {b L i : Nat} {xs : Nat → Int32} (F : LF p s m c G a AD ad b L xs) (hL : L ≤ 2048) (hi : i + 4 ≤ L) (k : LQ Zz p l e s m below meth c G a AD ad b i 763) : LQ Zz p l e s m below meth c G a AD ad b i 299 := by
  obtain ⟨cx, hK, hN, hX, hbl, hDx0, hDm0, hdis⟩ := F
  intro Y M H locs ls h hPx hPm hS hl
  have hDx : va_D (fun q => s.heap.size ≤ q) (plC G a AD Y) := hDx0.fst rfl
  have hDm : va_D (fun q => s.heap.size ≤ q) (mdC G ad M) := hDm0.fst rfl
  have hdis1 : ∀ q, wA (mdC G ad M) q → ¬ wA (plC G a AD Y) q := fun q h1 h2 => hdis q (pl_wA0 h2) h1
  refine lv_aload_n cx.1 cx.2.1 dL_law_299 rfl (lv_at hl 2 rfl) ?_
  refine WR.callV (As := []) (rest := []) cx (c_X6_clearText l G a AD Y  ) gL_law_X6_clearText rfl hd_X6_clearText ⟨Nat.le_of_ble_eq_true rfl, Nat.le_of_ble_eq_true rfl⟩ (va_recv hK hPx (ci := 5) (q0 := 0) rfl rfl) hK hN hPx hDx hS (fun _ hq => wA_in hDx hq) rfl hl.1 rfl (Nat.le_of_ble_eq_true rfl) dL_law_300 ⟨Nat.le_of_ble_eq_true rfl, Nat.le_of_ble_eq_true rfl⟩ (fun H locs hP1 hk1 hS => ?_)
  have hPm := kept2 hPm hdis1 hk1
  have hPx : va_P G.1 vwCl (plC G a AD (yClear Y).2) H := hP1
  refine lv_aload_n cx.1 cx.2.1 dL_law_303 rfl (lv_at hl 1 rfl) ?_
  refine WR.callV (As := []) (rest := [.int _]) cx (c_X7_clearText l G ad M  ) gL_law_X7_clearText rfl hd_X7_clearText ⟨Nat.le_of_ble_eq_true rfl, Nat.le_of_ble_eq_true rfl⟩ (va_recv hK hPm (ci := 6) (q0 := 0) rfl rfl) hK hN hPm hDm hS (fun _ hq => wA_in hDm hq) rfl hl.1 rfl (Nat.le_of_ble_eq_true rfl) dL_law_304 ⟨Nat.le_of_ble_eq_true rfl, Nat.le_of_ble_eq_true rfl⟩ (fun H locs hP1 hk1 hS => ?_)
  have hPx := kept2 hPx (fun q h1 h2 => hdis1 q h2 (pl_wA0 h1)) hk1
  have hPm : va_P G.1 vwCl (mdC G ad (mClear M).2) H := hP1
  have sm : Sm (yClear Y) (mClear M) := aClear h
  refine lv_icmp_eq (tgt := 763) cx.1 cx.2.1 dL_law_307 (by decide) (fun _ => ?_) (fun q => absurd sm.1 q)
  exact k _ _ _ _ _ sm.2 hPx hPm hS hl
set_option maxHeartbeats 4000000 in
set_option maxRecDepth 100000 in
theorem law_c6 {Zz : State → Prop} {p : Program} {l : Launch} {e : Env} {s : State} {m : MethodId} {below : List Frame} {meth : Method} {c : Code} {G : GG} {a : Nat → Nat} {AD : Nat → Nat → Nat} {ad : Nat → Nat} {b L i : Nat} {xs : Nat → Int32} (F : LF p s m c G a AD ad b L xs) (hL : L ≤ 2048) (hi : i + 4 ≤ L) (k : LQ Zz p l e s m below meth c G a AD ad b i 763) : LQ Zz p l e s m below meth c G a AD ad b i 312 := by
  obtain ⟨cx, hK, hN, hX, hbl, hDx0, hDm0, hdis⟩ := F
  intro Y M H locs ls h hPx hPm hS hl
  have hDx : va_D (fun q => s.heap.size ≤ q) (plC G a AD Y) := hDx0.fst rfl
  have hDm : va_D (fun q => s.heap.size ≤ q) (mdC G ad M) := hDm0.fst rfl
  have hdis1 : ∀ q, wA (mdC G ad M) q → ¬ wA (plC G a AD Y) q := fun q h1 h2 => hdis q (pl_wA0 h2) h1
  refine lv_aload_n cx.1 cx.2.1 dL_law_312 rfl (lv_at hl 2 rfl) ?_
  refine WR.callV (As := []) (rest := []) cx (c_X6_readNames l G a AD Y  h.t.1 h.h.1 h.x) gL_law_X6_readNames rfl hd_X6_readNames ⟨Nat.le_of_ble_eq_true rfl, Nat.le_of_ble_eq_true rfl⟩ (va_recv hK hPx (ci := 5) (q0 := 0) rfl rfl) hK hN hPx hDx hS (fun _ hq => wA_in hDx hq) rfl hl.1 rfl (Nat.le_of_ble_eq_true rfl) dL_law_313 ⟨Nat.le_of_ble_eq_true rfl, Nat.le_of_ble_eq_true rfl⟩ (fun H locs hP1 hk1 hS => ?_)
  have hPm := kept2 hPm hdis1 hk1
  have hPx : va_P G.1 vwCl (plC G a AD (yReadN Y).2) H := hP1
  refine lv_aload_n cx.1 cx.2.1 dL_law_316 rfl (lv_at hl 1 rfl) ?_
  refine WR.callV (As := []) (rest := [.int _]) cx (c_X7_readNames l G ad M  h.h.K h.r.m h.t.m) gL_law_X7_readNames rfl hd_X7_readNames ⟨Nat.le_of_ble_eq_true rfl, Nat.le_of_ble_eq_true rfl⟩ (va_recv hK hPm (ci := 6) (q0 := 0) rfl rfl) hK hN hPm hDm hS (fun _ hq => wA_in hDm hq) rfl hl.1 rfl (Nat.le_of_ble_eq_true rfl) dL_law_317 ⟨Nat.le_of_ble_eq_true rfl, Nat.le_of_ble_eq_true rfl⟩ (fun H locs hP1 hk1 hS => ?_)
  have hPx := kept2 hPx (fun q h1 h2 => hdis1 q h2 (pl_wA0 h1)) hk1
  have hPm : va_P G.1 vwCl (mdC G ad (mReadN M).2) H := hP1
  have sm : Sm (yReadN Y) (mReadN M) := aReadN h
  refine lv_icmp_eq (tgt := 763) cx.1 cx.2.1 dL_law_320 (by decide) (fun _ => ?_) (fun q => absurd sm.1 q)
  exact k _ _ _ _ _ sm.2 hPx hPm hS hl
set_option maxHeartbeats 4000000 in
set_option maxRecDepth 100000 in
theorem law_c7 {Zz : State → Prop} {p : Program} {l : Launch} {e : Env} {s : State} {m : MethodId} {below : List Frame} {meth : Method} {c : Code} {G : GG} {a : Nat → Nat} {AD : Nat → Nat → Nat} {ad : Nat → Nat} {b L i : Nat} {xs : Nat → Int32} (F : LF p s m c G a AD ad b L xs) (hL : L ≤ 2048) (hi : i + 4 ≤ L) (k : LQ Zz p l e s m below meth c G a AD ad b i 763) : LQ Zz p l e s m below meth c G a AD ad b i 325 := by
  obtain ⟨cx, hK, hN, hX, hbl, hDx0, hDm0, hdis⟩ := F
  intro Y M H locs ls h hPx hPm hS hl
  have hDx : va_D (fun q => s.heap.size ≤ q) (plC G a AD Y) := hDx0.fst rfl
  have hDm : va_D (fun q => s.heap.size ≤ q) (mdC G ad M) := hDm0.fst rfl
  have hdis1 : ∀ q, wA (mdC G ad M) q → ¬ wA (plC G a AD Y) q := fun q h1 h2 => hdis q (pl_wA0 h2) h1
  refine lv_aload_n cx.1 cx.2.1 dL_law_325 rfl (lv_at hl 2 rfl) ?_
  refine lv_aload_n cx.1 cx.2.1 dL_law_326 rfl (lv_at hl 3 rfl) ?_
  refine lv_iload_n cx.1 cx.2.1 dL_law_327 rfl (lv_at hl 0 rfl) ?_
  refine lv_iconst (v := nI 1) cx.1 cx.2.1 dL_law_328 (by decide) ?_
  refine nv_iadd cx dL_law_329 ?_
  refine nv_sld (L := L) cx hX hbl hS (show i + 1 < L by omega) hL dL_law_330 ?_
  refine WR.callV (As := [.int (xs (i + 1))]) (rest := []) cx (c_X6_remove l G a AD Y (xs (i + 1)) h.h.1 h.x) gL_law_X6_remove rfl hd_X6_remove ⟨Nat.le_of_ble_eq_true rfl, Nat.le_of_ble_eq_true rfl⟩ (va_recv hK hPx (ci := 5) (q0 := 0) rfl rfl) hK hN hPx hDx hS (fun _ hq => wA_in hDx hq) rfl hl.1 rfl (Nat.le_of_ble_eq_true rfl) dL_law_331 ⟨Nat.le_of_ble_eq_true rfl, Nat.le_of_ble_eq_true rfl⟩ (fun H locs hP1 hk1 hS => ?_)
  have hPm := kept2 hPm hdis1 hk1
  have hPx : va_P G.1 vwCl (plC G a AD (yRemove Y (xs (i + 1))).2) H := hP1
  refine lv_aload_n cx.1 cx.2.1 dL_law_334 rfl (lv_at hl 1 rfl) ?_
  refine lv_aload_n cx.1 cx.2.1 dL_law_335 rfl (lv_at hl 3 rfl) ?_
  refine lv_iload_n cx.1 cx.2.1 dL_law_336 rfl (lv_at hl 0 rfl) ?_
  refine lv_iconst (v := nI 1) cx.1 cx.2.1 dL_law_337 (by decide) ?_
  refine nv_iadd cx dL_law_338 ?_
  refine nv_sld (L := L) cx hX hbl hS (show i + 1 < L by omega) hL dL_law_339 ?_
  refine WR.callV (As := [.int (xs (i + 1))]) (rest := [.int _]) cx (c_X7_remove l G ad M (xs (i + 1)) h.h.K h.r.m) gL_law_X7_remove rfl hd_X7_remove ⟨Nat.le_of_ble_eq_true rfl, Nat.le_of_ble_eq_true rfl⟩ (va_recv hK hPm (ci := 6) (q0 := 0) rfl rfl) hK hN hPm hDm hS (fun _ hq => wA_in hDm hq) rfl hl.1 rfl (Nat.le_of_ble_eq_true rfl) dL_law_340 ⟨Nat.le_of_ble_eq_true rfl, Nat.le_of_ble_eq_true rfl⟩ (fun H locs hP1 hk1 hS => ?_)
  have hPx := kept2 hPx (fun q h1 h2 => hdis1 q h2 (pl_wA0 h1)) hk1
  have hPm : va_P G.1 vwCl (mdC G ad (mRemove M (xs (i + 1))).2) H := hP1
  have sm : Sm (yRemove Y (xs (i + 1))) (mRemove M (xs (i + 1))) := aRemove h _
  refine lv_icmp_eq (tgt := 763) cx.1 cx.2.1 dL_law_343 (by decide) (fun _ => ?_) (fun q => absurd sm.1 q)
  exact k _ _ _ _ _ sm.2 hPx hPm hS hl
set_option maxHeartbeats 4000000 in
set_option maxRecDepth 100000 in
theorem law_c8 {Zz : State → Prop} {p : Program} {l : Launch} {e : Env} {s : State} {m : MethodId} {below : List Frame} {meth : Method} {c : Code} {G : GG} {a : Nat → Nat} {AD : Nat → Nat → Nat} {ad : Nat → Nat} {b L i : Nat} {xs : Nat → Int32} (F : LF p s m c G a AD ad b L xs) (hL : L ≤ 2048) (hi : i + 4 ≤ L) (k : LQ Zz p l e s m below meth c G a AD ad b i 763) : LQ Zz p l e s m below meth c G a AD ad b i 348 := by
  obtain ⟨cx, hK, hN, hX, hbl, hDx0, hDm0, hdis⟩ := F
  intro Y M H locs ls h hPx hPm hS hl
  have hDx : va_D (fun q => s.heap.size ≤ q) (plC G a AD Y) := hDx0.fst rfl
  have hDm : va_D (fun q => s.heap.size ≤ q) (mdC G ad M) := hDm0.fst rfl
  have hdis1 : ∀ q, wA (mdC G ad M) q → ¬ wA (plC G a AD Y) q := fun q h1 h2 => hdis q (pl_wA0 h2) h1
  refine lv_aload_n cx.1 cx.2.1 dL_law_348 rfl (lv_at hl 2 rfl) ?_
  refine lv_aload_n cx.1 cx.2.1 dL_law_349 rfl (lv_at hl 3 rfl) ?_
  refine lv_iload_n cx.1 cx.2.1 dL_law_350 rfl (lv_at hl 0 rfl) ?_
  refine lv_iconst (v := nI 1) cx.1 cx.2.1 dL_law_351 (by decide) ?_
  refine nv_iadd cx dL_law_352 ?_
  refine nv_sld (L := L) cx hX hbl hS (show i + 1 < L by omega) hL dL_law_353 ?_
  refine lv_aload_n cx.1 cx.2.1 dL_law_354 rfl (lv_at hl 3 rfl) ?_
  refine lv_iload_n cx.1 cx.2.1 dL_law_355 rfl (lv_at hl 0 rfl) ?_
  refine lv_iconst (v := nI 2) cx.1 cx.2.1 dL_law_356 (by decide) ?_
  refine nv_iadd cx dL_law_357 ?_
  refine nv_sld (L := L) cx hX hbl hS (show i + 2 < L by omega) hL dL_law_358 ?_
  refine WR.callV (As := [.int (xs (i + 1)), .int (xs (i + 2))]) (rest := []) cx (c_X6_swap l G a AD Y (xs (i + 1)) (xs (i + 2)) h.h.1 h.x) gL_law_X6_swap rfl hd_X6_swap ⟨Nat.le_of_ble_eq_true rfl, Nat.le_of_ble_eq_true rfl⟩ (va_recv hK hPx (ci := 5) (q0 := 0) rfl rfl) hK hN hPx hDx hS (fun _ hq => wA_in hDx hq) rfl hl.1 rfl (Nat.le_of_ble_eq_true rfl) dL_law_359 ⟨Nat.le_of_ble_eq_true rfl, Nat.le_of_ble_eq_true rfl⟩ (fun H locs hP1 hk1 hS => ?_)
  have hPm := kept2 hPm hdis1 hk1
  have hPx : va_P G.1 vwCl (plC G a AD (ySwap Y (xs (i + 1)) (xs (i + 2))).2) H := hP1
  refine lv_aload_n cx.1 cx.2.1 dL_law_362 rfl (lv_at hl 1 rfl) ?_
  refine lv_aload_n cx.1 cx.2.1 dL_law_363 rfl (lv_at hl 3 rfl) ?_
  refine lv_iload_n cx.1 cx.2.1 dL_law_364 rfl (lv_at hl 0 rfl) ?_
  refine lv_iconst (v := nI 1) cx.1 cx.2.1 dL_law_365 (by decide) ?_
  refine nv_iadd cx dL_law_366 ?_
  refine nv_sld (L := L) cx hX hbl hS (show i + 1 < L by omega) hL dL_law_367 ?_
  refine lv_aload_n cx.1 cx.2.1 dL_law_368 rfl (lv_at hl 3 rfl) ?_
  refine lv_iload_n cx.1 cx.2.1 dL_law_369 rfl (lv_at hl 0 rfl) ?_
  refine lv_iconst (v := nI 2) cx.1 cx.2.1 dL_law_370 (by decide) ?_
  refine nv_iadd cx dL_law_371 ?_
  refine nv_sld (L := L) cx hX hbl hS (show i + 2 < L by omega) hL dL_law_372 ?_
  refine WR.callV (As := [.int (xs (i + 1)), .int (xs (i + 2))]) (rest := [.int _]) cx (c_X7_swap l G ad M (xs (i + 1)) (xs (i + 2)) h.h.K h.r.m) gL_law_X7_swap rfl hd_X7_swap ⟨Nat.le_of_ble_eq_true rfl, Nat.le_of_ble_eq_true rfl⟩ (va_recv hK hPm (ci := 6) (q0 := 0) rfl rfl) hK hN hPm hDm hS (fun _ hq => wA_in hDm hq) rfl hl.1 rfl (Nat.le_of_ble_eq_true rfl) dL_law_373 ⟨Nat.le_of_ble_eq_true rfl, Nat.le_of_ble_eq_true rfl⟩ (fun H locs hP1 hk1 hS => ?_)
  have hPx := kept2 hPx (fun q h1 h2 => hdis1 q h2 (pl_wA0 h1)) hk1
  have hPm : va_P G.1 vwCl (mdC G ad (mSwap M (xs (i + 1)) (xs (i + 2))).2) H := hP1
  have sm : Sm (ySwap Y (xs (i + 1)) (xs (i + 2))) (mSwap M (xs (i + 1)) (xs (i + 2))) := aSwap h _ _
  refine lv_icmp_eq (tgt := 763) cx.1 cx.2.1 dL_law_376 (by decide) (fun _ => ?_) (fun q => absurd sm.1 q)
  exact k _ _ _ _ _ sm.2 hPx hPm hS hl
