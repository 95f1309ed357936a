/-! ===== what the class's inner writes leave ===== -/
def ROr (l : Launch) (y : MethodName) (wsy : List Cond) (fr lo : Nat) (G : GG) (ws : va_W) (av : List Value) (k : Nat) : Prop := Met l y wsy ({ frames := fr, cells := 0, slots := 0, locals := lo } : Room) (va_Pc av (Wd G ws)) (va_Sr (fun k9 => k9 = k) Value.ref) 0 0 (fun _ => False)
theorem ROr.start {l : Launch} {y : MethodName} {wsy : List Cond} {fr lo : Nat} {G : GG} {ws : va_W} {av : List Value} {v : Nat} {cc : ByteArray} {maxL : Nat} {ret : Option FieldType} {ws' : List Cond} (hy : plainName y.cls = true) (hw : wsy = Cond.code y cc maxL ret :: ws') (hlen : (lg_sl av).length ≤ maxL)
    (body : ∀ (p : Program) (e : Env) (s : State) (m : MethodId) (below : List Frame) (meth : Method) (c : Code) (ls : Array Slot), CallFix p m c cc maxL s av.toArray wsy y.cls → meth.sig.returnType = ret → meth.locks = false → va_K G.1 vwCl (T3 G) s → Nst s → va_P G.1 vwCl ws s.heap → lv_has ls maxL (lv_args 0 av) →
      W p l e ({ frames := fr, cells := 0, slots := 0, locals := lo } : Room) s m av.toArray below meth c s.heap [] 0 0 (MQ below (va_Sr (fun k9 => k9 = v) Value.ref) av.toArray s 0 0 (fun _ => False)) (F0 m 0 ls [])) : ROr l y wsy fr lo G ws av v := by
  refine Met.ofW hy hw ?_
  intro p e s m args below meth c s₁ B hml hv
  obtain ⟨rfl, hP, hK, hN⟩ := hv
  have hown : s.vm.findClass y.cls = some m.cls := findClass_of_methodNamed B.named
  rw [lg_entry_eq]
  exact body p e s m below meth c _ ⟨B.exec, B.bytes, hml, hown, atoms_spec (ws := wsy) B.pre⟩ B.returns B.notSynchronized hK hN hP (lv_entry av hlen)
section RR
variable {p : Program} {l : Launch} {e : Env} {R : Room} {s : State} {m : MethodId} {args : Array Value} {below : List Frame} {meth : Method} {c : Code} {H : Heap} {locs : List Loc} {cells slots : Nat} {Q : State → Prop}
variable {cc : ByteArray} {pc nL : Nat} {ls : Array Slot} {rest st0 : List Value} {Ts wsy : List Cond} {own : String} {G : GG}
theorem ROr.ret {v x : Nat} {n : String} (cx : CallFix p m c cc nL s args Ts own) (hr : meth.sig.returnType = some (.object n)) (hlocks : meth.locks = false) (hd : decode cc pc = .ok (.areturn, 1)) (hv : x = v) : W p l e R s m args below meth c s.heap [] 0 0 (MQ below (va_Sr (fun k9 => k9 = v) Value.ref) args s 0 0 (fun _ => False)) (F0 m pc ls [.ref x]) :=
  W.aret cx.1 cx.2.1 hr (Or.inl ⟨_, rfl⟩) (Or.inr ⟨_, rfl⟩) (fun t ht _ => ⟨x, rfl, hv, ht⟩) (fun q h => by cases h) hd hlocks
theorem ROr.callV {y : MethodName} {bytes : ByteArray} {maxL index n fr lo : Nat} {ret : Option FieldType} {ws' : List Cond} {C : String} {b : Addr} {As : List Value} {ws0 : va_W} {v : Nat} (cx : CallFix p m c cc nL s args Ts own) (hM : ROr l y wsy fr lo G ws0 (.ref b :: As) v) (hG : GoodIn Ts (wsV own index C y wsy)) (hw : wsy = Cond.code y bytes maxL ret :: ws')
    (hd : y.cls = C ∧ y.cls ≠ "java/lang/invoke/MethodHandle" ∧ y.cls ≠ "java/lang/invoke/VarHandle" ∧ (parseMethodDescriptor y.desc).map (fun d => d.parameters.length) = some n) (hR : fr + 1 ≤ R.frames ∧ 8 + (maxL + 11) + lo ≤ R.locals)
    (hrecv : ∃ cell : Cell, H[b]? = some cell ∧ cell.vm.isStatics = false ∧ s.vm.findClass C = some cell.cls) (hK : va_K G.1 vwCl (T3 G) s) (hN : Nst s) (hP : va_P G.1 vwCl ws0 H) (hn : As.length = n) (hsize : ls.size = nL) (hst : st0 = As.reverse ++ .ref b :: rest) (hroom : (rest.map fun v => v.category).sum ≤ 8) (hdg : decode cc pc = .ok (.invokevirtual index, 3)) (hcs : cells ≤ R.cells ∧ slots ≤ R.slots)
    (kk : W p l e R s m args below meth c H locs cells slots Q (F0 m (pc + 3) ls (.ref v :: rest))) : W p l e R s m args below meth c H locs cells slots Q (F0 m pc ls st0) :=
  va_csr (W.runV cx hM (cwV n cx.2.2.2.2 hG hw rfl rfl hd hR) ⟨Wd.bl, hrecv, fun U hU hW => ⟨rfl, by rw [hU]; exact hP, va_K.moved hW.alike hK, Nst.warm hW hN⟩⟩ rfl hn hsize hst (lv_room hroom) hdg hcs) (fun r hr => by subst hr; exact kk)
end RR
theorem cpy_all {f g : Nat → Int32} {n j : Nat} (hn : n < 2147483648) (hj : j < n) : va_cpy f g (nI 0).toNatClampNeg (nI 0).toNatClampNeg (nI n).toNatClampNeg j = f j := by
  rw [nI_clamp (show 0 < 2147483648 by decide), nI_clamp hn, pk_cpy_in (Nat.zero_le _) (by omega)]
  congr 1
  omega
theorem cpy_le {n : Nat} (hn : n < 2147483648) : (nI 0).toNatClampNeg + (nI n).toNatClampNeg ≤ n := by
  rw [nI_clamp (show 0 < 2147483648 by decide), nI_clamp hn]
  omega
theorem cpy_fit {f : Nat → Int32} {n : Nat} (hn : n < 2147483648) (h : ∀ j, j < n → chOk (f j)) : ∀ i, i < (nI n).toNatClampNeg → fits .char (.int (f ((nI 0).toNatClampNeg + i))) = true := by
  intro i hi
  rw [nI_clamp hn] at hi
  rw [nI_clamp (show 0 < 2147483648 by decide), Nat.zero_add]
  exact (h i hi).2
def xNc (X X2 : XS) : XS := va_up (va_up (va_up X 0 (X2 0)) 1 (X2 1)) 5 (upd (X 5) 0 (X2 5 0))
def xPc (X X2 : XS) : XS := va_up (va_up (va_up (va_up X 2 (X2 2)) 3 (X2 3)) 4 (X2 4)) 5 (upd (X 5) 1 (X2 5 1))
def xBg (X : XS) : XS := va_up (va_up X 1 (upd (X 1) (xn X) 0)) 5 (upd (X 5) 0 (nI (xn X + 1)))
def xAp (X : XS) (c : Int32) : XS := va_up (va_up X 0 (upd (X 0) ((xn X - 1) * 16 + xl X (xn X - 1)) c)) 1 (upd (X 1) (xn X - 1) (nI (xl X (xn X - 1) + 1)))
def swN (r : Nat → Int32) (i j t : Nat) : Nat → Int32 := fun q => if i * 16 ≤ q ∧ q < i * 16 + t then r (j * 16 + (q - i * 16)) else if j * 16 ≤ q ∧ q < j * 16 + t then r (i * 16 + (q - j * 16)) else r q
theorem swN_0 (r : Nat → Int32) (i j : Nat) : swN r i j 0 = r := by
  funext q
  unfold swN
  rw [if_neg (by omega), if_neg (by omega)]
theorem swN_i {r : Nat → Int32} {i j t : Nat} (hij : i ≠ j) (ht : t < 16) : swN r i j t (i * 16 + t) = r (i * 16 + t) := by
  unfold swN
  rw [if_neg (by omega), if_neg (by omega)]
theorem swN_j {r : Nat → Int32} {i j t : Nat} (hij : i ≠ j) (ht : t < 16) : swN r i j t (j * 16 + t) = r (j * 16 + t) := by
  unfold swN
  rw [if_neg (by omega), if_neg (by omega)]
theorem swN_step {r : Nat → Int32} {i j t : Nat} (hij : i ≠ j) (ht : t < 16) : swN r i j (t + 1) = upd (upd (swN r i j t) (i * 16 + t) (swN r i j t (j * 16 + t))) (j * 16 + t) (swN r i j t (i * 16 + t)) := by
  funext q
  rw [swN_i hij ht, swN_j hij ht]
  unfold upd
  by_cases h1 : q = j * 16 + t
  · rw [if_pos h1]
    subst h1
    unfold swN
    rw [if_neg (by omega), if_pos (by omega)]
    congr 1
    omega
  · rw [if_neg h1]
    by_cases h2 : q = i * 16 + t
    · rw [if_pos h2]
      subst h2
      unfold swN
      rw [if_pos (by omega)]
      congr 1
      omega
    · rw [if_neg h2]
      unfold swN
      by_cases h3 : i * 16 ≤ q ∧ q < i * 16 + t
      · rw [if_pos h3, if_pos (by omega)]
      · rw [if_neg h3, if_neg (by omega)]
        by_cases h4 : j * 16 ≤ q ∧ q < j * 16 + t
        · rw [if_pos h4, if_pos (by omega)]
        · rw [if_neg h4, if_neg (by omega)]
def xSw (X : XS) (i j t : Nat) : XS := va_up X 0 (swN (X 0) i j t)
def xEx (X : XS) (i j : Nat) : XS := va_up (xSw X i j 16) 1 (upd (upd (X 1) i (X 1 j)) j (X 1 i))
theorem swN_ch {r : Nat → Int32} (h : ∀ q, q < 320 → chOk (r q)) {i j t : Nat} (hi : i < 20) (hj : j < 20) (ht : t ≤ 16) {q : Nat} (hq : q < 320) : chOk (swN r i j t q) := by
  unfold swN
  split
  · exact h _ (by omega)
  · split
    · exact h _ (by omega)
    · exact h _ hq
theorem xEx_n (X : XS) (i j : Nat) : xn (xEx X i j) = xn X := rfl
theorem okX_ex {X : XS} (hok : okX X) {i j : Nat} (hi : i < 20) (hj : j < 20) : okX (xEx X i j) := by
  refine ⟨hok.n, hok.n20, fun k hk => ?_, hok.p, hok.p16, fun q hq => swN_ch hok.2.2.2.2.2.1 hi hj (Nat.le_refl _) hq, hok.2.2.2.2.2.2⟩
  have key : ∃ k', k' < 20 ∧ xEx X i j 1 k = X 1 k' := by
    show ∃ k', k' < 20 ∧ upd (upd (X 1) i (X 1 j)) j (X 1 i) k = X 1 k'
    unfold upd
    split
    · exact ⟨i, hi, rfl⟩
    · split
      · exact ⟨j, hj, rfl⟩
      · exact ⟨k, hk, rfl⟩
  obtain ⟨k', h1, h2⟩ := key
  unfold xl
  rw [h2, hok.l h1, nI_clamp (Nat.lt_of_le_of_lt (hok.l16 h1) (by decide))]
  exact ⟨rfl, hok.l16 h1⟩
/-- a name goes back one seat after the other -/
def xRo (X : XS) (k : Nat) : Nat → XS
  | 0 => X
  | t + 1 => xEx (xRo X k t) (k + t) (k + 1 + t)
theorem xRo_n (X : XS) (k : Nat) : ∀ t, xn (xRo X k t) = xn X
  | 0 => rfl
  | t + 1 => xRo_n X k t
theorem okX_ro {X : XS} (hok : okX X) {k : Nat} : ∀ {t : Nat}, k + t < 20 → okX (xRo X k t)
  | 0, _ => hok
  | t + 1, h => okX_ex (okX_ro hok (by omega)) (by omega) (by omega)
def xTo (X : XS) (k : Nat) : XS := va_up (xRo X k (xn X - (k + 1))) 5 (upd (xRo X k (xn X - (k + 1)) 5) 0 (nI (xn X - 1)))
def xPa (X : XS) (a b v : Int32) : XS := va_up (va_up (va_up (va_up X 2 (upd (X 2) (xp X) a)) 3 (upd (X 3) (xp X) b)) 4 (upd (X 4) (xp X) v)) 5 (upd (X 5) 1 (nI (xp X + 1)))
def shN (r : Nat → Int32) (p t : Nat) : Nat → Int32 := fun q => if p ≤ q ∧ q < p + t then r (q + 1) else r q
theorem shN_0 (r : Nat → Int32) (p : Nat) : shN r p 0 = r := by
  funext q
  unfold shN
  rw [if_neg (by omega)]
theorem shN_at (r : Nat → Int32) (p t : Nat) : shN r p t (p + 1 + t) = r (p + 1 + t) := by
  unfold shN
  rw [if_neg (by omega)]
theorem shN_step (r : Nat → Int32) (p t : Nat) : shN r p (t + 1) = upd (shN r p t) (p + t) (shN r p t (p + 1 + t)) := by
  funext q
  rw [shN_at]
  unfold upd shN
  by_cases h : q = p + t
  · rw [if_pos h, if_pos (by omega), h]
    congr 1
    omega
  · rw [if_neg h]
    by_cases h2 : p ≤ q ∧ q < p + t
    · rw [if_pos h2, if_pos (by omega)]
    · rw [if_neg h2, if_neg (by omega)]
def xSh (X : XS) (p t : Nat) : XS := va_up (va_up (va_up X 2 (shN (X 2) p t)) 3 (shN (X 3) p t)) 4 (shN (X 4) p t)
theorem xSh_0 (G : GG) (ad : Nat → Nat) (X : XS) (p : Nat) : stC G ad (xSh X p 0) = stC G ad X := by
  unfold xSh
  rw [shN_0, shN_0, shN_0]
  rfl
theorem xSh_step (G : GG) (ad : Nat → Nat) (X : XS) (p t : Nat) : stC G ad (xSh X p (t + 1)) = stC G ad (va_up (va_up (va_up X 2 (upd (shN (X 2) p t) (p + t) (shN (X 2) p t (p + 1 + t)))) 3 (upd (shN (X 3) p t) (p + t) (shN (X 3) p t (p + 1 + t)))) 4 (upd (shN (X 4) p t) (p + t) (shN (X 4) p t (p + 1 + t)))) := by
  unfold xSh
  rw [shN_step, shN_step, shN_step]
theorem xSw_0 (G : GG) (ad : Nat → Nat) (X : XS) (i j : Nat) : stC G ad (xSw X i j 0) = stC G ad X := by
  unfold xSw
  rw [swN_0]
  rfl
theorem xSw_step (G : GG) (ad : Nat → Nat) (X : XS) {i j t : Nat} (hij : i ≠ j) (ht : t < 16) : stC G ad (xSw X i j (t + 1)) = stC G ad (va_up X 0 (upd (upd (swN (X 0) i j t) (i * 16 + t) (swN (X 0) i j t (j * 16 + t))) (j * 16 + t) (swN (X 0) i j t (i * 16 + t)))) := by
  unfold xSw
  rw [swN_step hij ht]
def xPt (X : XS) (p : Nat) : XS := va_up (xSh X p (xp X - (p + 1))) 5 (upd (X 5) 1 (nI (xp X - 1)))
def xPut (X : XS) (a b v : Int32) : XS := if xPl X a b < xp X then (if v = 0 then xPt X (xPl X a b) else va_up X 4 (upd (X 4) (xPl X a b) v)) else if v = 0 then X else xPa X a b v
def xCut5 (g : Nat → Int32) (w h : Int32) : Nat → Int32 := upd (upd (upd (upd (upd g 2 w) 3 h) 6 0) 8 (g 8 + 1)) 9 (g 9 + bitc (g 6))
def xRe (X : XS) (w h : Int32) : XS := va_up X 5 (xCut5 (X 5) w h)
def xMe (X : XS) (s z : Int32) : XS := va_up X 5 (upd (upd (X 5) 6 (X 5 6 ||| s)) 7 z)
