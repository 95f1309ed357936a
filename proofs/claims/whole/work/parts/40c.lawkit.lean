/-! ===== the law's loop: what stays, what turns ===== -/
theorem i2c_n (x : Int32) : (x.toUInt32 % 65536).toInt32 = nI (x.toUInt32.toNat % 65536) := by
  have e : x.toUInt32 % 65536 = UInt32.ofNat (x.toUInt32.toNat % 65536) := by
    apply UInt32.toNat_inj.mp
    have h1 : (UInt32.ofNat (x.toUInt32.toNat % 65536)).toNat = x.toUInt32.toNat % 65536 := Nat.mod_eq_of_lt (by omega)
    rw [h1, UInt32.toNat_mod]
    rfl
  rw [e]
  rfl
theorem chOk_i2c (x : Int32) : chOk (x.toUInt32 % 65536).toInt32 := by
  rw [i2c_n]
  exact chOk_n (Nat.mod_lt _ (by decide))
theorem lw_gt {i L : Nat} (hL : L ≤ 2048) (hi : i ≤ 4096) : (Int32.ofNat L - nI 4 < nI i) ↔ ¬ i + 4 ≤ L := by
  have e1 : (Int32.ofNat L).toInt = (L : Int) := nI_toInt (show L < 2147483648 by omega)
  have e2 : (nI 4).toInt = 4 := by decide
  rw [Int32.lt_iff_toInt_lt, Int32.toInt_sub, e1, e2, Int.bmod_eq_of_le (by omega) (by omega), nI_toInt (by omega)]
  omega
theorem and31 (v : Int32) : ∃ t : Nat, t < 32 ∧ v &&& nI 31 = nI t := by
  have hb : v.toUInt32.toNat < 4294967296 := v.toUInt32.toNat_lt
  have e : v = nI v.toUInt32.toNat := by
    show v = (UInt32.ofNat v.toUInt32.toNat).toInt32
    rw [UInt32.ofNat_toNat]
    rfl
  refine ⟨v.toUInt32.toNat &&& 31, Nat.lt_of_le_of_lt Nat.and_le_right (by decide), ?_⟩
  have e2 := bnd v.toUInt32.toNat 31
  rw [← e] at e2
  exact e2
def LF (p : Program) (s : State) (m : MethodId) (c : Code) (G : GG) (a : Nat → Nat) (AD : Nat → Nat → Nat) (ad : Nat → Nat) (b L : Nat) (xs : Nat → Int32) : Prop := CallFix p m c cL_law 4 s #[Value.ref b] wsL_law RL ∧ va_K G.1 vwCl (T3 G) s ∧ Nst s ∧ va_X b L xs s s.heap ∧ b < s.heap.size ∧ va_D (fun q => s.heap.size ≤ q) (plC G a AD YZ) ∧ va_D (fun q => s.heap.size ≤ q) (mdC G ad MZ) ∧ ∀ q, wA (plC G a AD YZ) q → ¬ wA (mdC G ad MZ) q
def LQ (Zz : State → Prop) (p : Program) (l : Launch) (e : Env) (s : State) (m : MethodId) (below : List Frame) (meth : Method) (c : Code) (G : GG) (a : Nat → Nat) (AD : Nat → Nat → Nat) (ad : Nat → Nat) (b i pc : Nat) : Prop := ∀ (Y : Nat → XS) (M : XS) (H : Heap) (locs : List Loc) (ls : Array Slot), Inv Y M → va_P G.1 vwCl (plC G a AD Y) H → va_P G.1 vwCl (mdC G ad M) H → va_S (fun q => s.heap.size ≤ q) s.heap H locs → lv_has ls 4 [(3, .int (nI i)), (2, .ref (ad 0)), (1, .ref (a 0)), (0, .ref b)] → W p l e room_1 s m #[Value.ref b] below meth c H locs 66 5896 Zz (F0 m pc ls [])
theorem kept2 {D : va_G} {cl : List vw_C} {ws ws0 : va_W} {H H1 : Heap} (hP : va_P D cl ws H) (hd : ∀ q, wA ws q → ¬ wA ws0 q) (hk : ∀ q : Nat, q < H.size → ¬ wA ws0 q → H1[q]? = H[q]?) : va_P D cl ws H1 := hP.kept (fun k q hq => hk q.1 ((hP k q hq).lt) (hd _ (wA_of hq)))
theorem wA_in {A : Nat → Prop} {ws : va_W} (hD : va_D A ws) {q : Nat} (hq : wA ws q) : A q := by
  obtain ⟨x, hx, rfl⟩ := List.mem_map.mp hq
  obtain ⟨k, hk⟩ := List.mem_iff_getElem?.mp hx
  exact hD.2 k x hk
section SLD
variable {p : Program} {l : Launch} {e : Env} {R : Room} {s : State} {m : MethodId} {args : Array Value} {below : List Frame} {meth : Method} {c : Code} {H : Heap} {locs : List Loc} {cells slots : Nat} {Q : State → Prop}
variable {cc : ByteArray} {pc nL : Nat} {ls : Array Slot} {rest : List Value} {Ts : List Cond} {own : String}
theorem nv_sld (cx : CallFix p m c cc nL s args Ts own) {b L : Nat} {xs : Nat → Int32} (hX : va_X b L xs s s.heap) (hbl : b < s.heap.size) (hS : va_S (fun q => s.heap.size ≤ q) s.heap H locs) {j : Nat} (hj : j < L) (hL : L ≤ 2048) (hdg : decode cc pc = .ok (.iaload, 1))
    (kk : W p l e R s m args below meth c H locs cells slots Q (F0 m (pc + 1) ls (.int (xs j) :: rest))) : W p l e R s m args below meth c H locs cells slots Q (F0 m pc ls (.int (nI j) :: .ref b :: rest)) :=
  va_sld cx.1 cx.2.1 hX hbl (Nat.not_le.mpr hbl) hS (vp_in_nI hj (by omega)) hdg (by rw [nI_clamp (show j < 2147483648 by omega)]; exact kk)
end SLD
