section
-- ===== PART A: goes FIRST, ahead of the names: the tables' words, and 'selects' of the private methods out of them =====
/-- a private method of a class that the tables say can be made, by its rows of tables_1 -/
def lw_okq (q : MethodName × Nat) : Prop := (q.1.cls ≠ "java/lang/invoke/MethodHandle" ∧ q.1.cls ≠ "java/lang/invoke/VarHandle") ∧ Cond.instantiable q.1.cls q.2 ∈ tables_1 ∧ Cond.privateMethod q.1 ∈ tables_1 ∧ Cond.instanceMethod q.1 ∈ tables_1
theorem lw_p0 : lw_okq (⟨"NamePlate$History", "slotAt", "(I)LNamePlate$State;"⟩, 3) := ⟨⟨by decide +kernel, by decide +kernel⟩, List.mem_of_getElem? (i := 106) (by decide +kernel), List.mem_of_getElem? (i := 167) (by decide +kernel), List.mem_of_getElem? (i := 168) (by decide +kernel)⟩
theorem lw_p1 : lw_okq (⟨"NamePlate$State", "hasPair", "(ICC)Z"⟩, 10) := ⟨⟨by decide +kernel, by decide +kernel⟩, List.mem_of_getElem? (i := 21) (by decide +kernel), List.mem_of_getElem? (i := 234) (by decide +kernel), List.mem_of_getElem? (i := 235) (by decide +kernel)⟩
theorem lw_p2 : lw_okq (⟨"NamePlate$Pairs", "takeOut", "(I)V"⟩, 4) := ⟨⟨by decide +kernel, by decide +kernel⟩, List.mem_of_getElem? (i := 47) (by decide +kernel), List.mem_of_getElem? (i := 271) (by decide +kernel), List.mem_of_getElem? (i := 272) (by decide +kernel)⟩
theorem lw_p3 : lw_okq (⟨"NamePlate$Pairs", "append", "(CCI)V"⟩, 4) := ⟨⟨by decide +kernel, by decide +kernel⟩, List.mem_of_getElem? (i := 47) (by decide +kernel), List.mem_of_getElem? (i := 275) (by decide +kernel), List.mem_of_getElem? (i := 276) (by decide +kernel)⟩
theorem lw_p4 : lw_okq (⟨"NamePlate", "addNamesOfText", "()V"⟩, 5) := ⟨⟨by decide +kernel, by decide +kernel⟩, List.mem_of_getElem? (i := 13) (by decide +kernel), List.mem_of_getElem? (i := 316) (by decide +kernel), List.mem_of_getElem? (i := 317) (by decide +kernel)⟩
theorem lw_p5 : lw_okq (⟨"NamePlate$State", "twiceInkMoment", "(I)I"⟩, 10) := ⟨⟨by decide +kernel, by decide +kernel⟩, List.mem_of_getElem? (i := 21) (by decide +kernel), List.mem_of_getElem? (i := 439) (by decide +kernel), List.mem_of_getElem? (i := 440) (by decide +kernel)⟩
theorem lw_p6 : lw_okq (⟨"NamePlate", "nameBySize", "(III)I"⟩, 5) := ⟨⟨by decide +kernel, by decide +kernel⟩, List.mem_of_getElem? (i := 13) (by decide +kernel), List.mem_of_getElem? (i := 482) (by decide +kernel), List.mem_of_getElem? (i := 483) (by decide +kernel)⟩
theorem lw_p7 : lw_okq (⟨"NamePlate", "signBegin", "(III)I"⟩, 5) := ⟨⟨by decide +kernel, by decide +kernel⟩, List.mem_of_getElem? (i := 13) (by decide +kernel), List.mem_of_getElem? (i := 515) (by decide +kernel), List.mem_of_getElem? (i := 516) (by decide +kernel)⟩
theorem lw_p8 : lw_okq (⟨"NamePlateModel", "engraved", "()I"⟩, 7) := ⟨⟨by decide +kernel, by decide +kernel⟩, List.mem_of_getElem? (i := 575) (by decide +kernel), List.mem_of_getElem? (i := 607) (by decide +kernel), List.mem_of_getElem? (i := 608) (by decide +kernel)⟩
theorem lw_p9 : lw_okq (⟨"NamePlateModel", "of", "(II)I"⟩, 7) := ⟨⟨by decide +kernel, by decide +kernel⟩, List.mem_of_getElem? (i := 575) (by decide +kernel), List.mem_of_getElem? (i := 611) (by decide +kernel), List.mem_of_getElem? (i := 612) (by decide +kernel)⟩
theorem lw_p10 : lw_okq (⟨"NamePlateModel", "free", "(II)I"⟩, 7) := ⟨⟨by decide +kernel, by decide +kernel⟩, List.mem_of_getElem? (i := 575) (by decide +kernel), List.mem_of_getElem? (i := 615) (by decide +kernel), List.mem_of_getElem? (i := 616) (by decide +kernel)⟩
theorem lw_p11 : lw_okq (⟨"NamePlateModel", "mostUnits", "(I)I"⟩, 7) := ⟨⟨by decide +kernel, by decide +kernel⟩, List.mem_of_getElem? (i := 575) (by decide +kernel), List.mem_of_getElem? (i := 619) (by decide +kernel), List.mem_of_getElem? (i := 620) (by decide +kernel)⟩
theorem lw_p12 : lw_okq (⟨"NamePlateModel", "units", "(I)I"⟩, 7) := ⟨⟨by decide +kernel, by decide +kernel⟩, List.mem_of_getElem? (i := 575) (by decide +kernel), List.mem_of_getElem? (i := 623) (by decide +kernel), List.mem_of_getElem? (i := 624) (by decide +kernel)⟩
theorem lw_p13 : lw_okq (⟨"NamePlateModel", "unitsTo", "(II)I"⟩, 7) := ⟨⟨by decide +kernel, by decide +kernel⟩, List.mem_of_getElem? (i := 575) (by decide +kernel), List.mem_of_getElem? (i := 627) (by decide +kernel), List.mem_of_getElem? (i := 628) (by decide +kernel)⟩
theorem lw_p14 : lw_okq (⟨"NamePlateModel", "signOf", "(II)I"⟩, 7) := ⟨⟨by decide +kernel, by decide +kernel⟩, List.mem_of_getElem? (i := 575) (by decide +kernel), List.mem_of_getElem? (i := 631) (by decide +kernel), List.mem_of_getElem? (i := 632) (by decide +kernel)⟩
theorem lw_p15 : lw_okq (⟨"NamePlateModel", "space", "(II)I"⟩, 7) := ⟨⟨by decide +kernel, by decide +kernel⟩, List.mem_of_getElem? (i := 575) (by decide +kernel), List.mem_of_getElem? (i := 644) (by decide +kernel), List.mem_of_getElem? (i := 645) (by decide +kernel)⟩
def lw_privs_1 : List (MethodName × Nat) := [(⟨"NamePlate$History", "slotAt", "(I)LNamePlate$State;"⟩, 3), (⟨"NamePlate$State", "hasPair", "(ICC)Z"⟩, 10), (⟨"NamePlate$Pairs", "takeOut", "(I)V"⟩, 4), (⟨"NamePlate$Pairs", "append", "(CCI)V"⟩, 4), (⟨"NamePlate", "addNamesOfText", "()V"⟩, 5), (⟨"NamePlate$State", "twiceInkMoment", "(I)I"⟩, 10), (⟨"NamePlate", "nameBySize", "(III)I"⟩, 5), (⟨"NamePlate", "signBegin", "(III)I"⟩, 5), (⟨"NamePlateModel", "engraved", "()I"⟩, 7), (⟨"NamePlateModel", "of", "(II)I"⟩, 7), (⟨"NamePlateModel", "free", "(II)I"⟩, 7), (⟨"NamePlateModel", "mostUnits", "(I)I"⟩, 7), (⟨"NamePlateModel", "units", "(I)I"⟩, 7), (⟨"NamePlateModel", "unitsTo", "(II)I"⟩, 7), (⟨"NamePlateModel", "signOf", "(II)I"⟩, 7), (⟨"NamePlateModel", "space", "(II)I"⟩, 7)]
theorem lw_r1 : ∀ q ∈ lw_privs_1, lw_okq q := List.forall_mem_cons.mpr ⟨lw_p0, List.forall_mem_cons.mpr ⟨lw_p1, List.forall_mem_cons.mpr ⟨lw_p2, List.forall_mem_cons.mpr ⟨lw_p3, List.forall_mem_cons.mpr ⟨lw_p4, List.forall_mem_cons.mpr ⟨lw_p5, List.forall_mem_cons.mpr ⟨lw_p6, List.forall_mem_cons.mpr ⟨lw_p7, List.forall_mem_cons.mpr ⟨lw_p8, List.forall_mem_cons.mpr ⟨lw_p9, List.forall_mem_cons.mpr ⟨lw_p10, List.forall_mem_cons.mpr ⟨lw_p11, List.forall_mem_cons.mpr ⟨lw_p12, List.forall_mem_cons.mpr ⟨lw_p13, List.forall_mem_cons.mpr ⟨lw_p14, List.forall_mem_cons.mpr ⟨lw_p15, fun _ h => absurd h List.not_mem_nil⟩⟩⟩⟩⟩⟩⟩⟩⟩⟩⟩⟩⟩⟩⟩⟩
theorem lw_p16 : lw_okq (⟨"NamePlateModel", "adjusted", "(II)I"⟩, 7) := ⟨⟨by decide +kernel, by decide +kernel⟩, List.mem_of_getElem? (i := 575) (by decide +kernel), List.mem_of_getElem? (i := 651) (by decide +kernel), List.mem_of_getElem? (i := 652) (by decide +kernel)⟩
theorem lw_p17 : lw_okq (⟨"NamePlateModel", "placeOf", "(II)I"⟩, 7) := ⟨⟨by decide +kernel, by decide +kernel⟩, List.mem_of_getElem? (i := 575) (by decide +kernel), List.mem_of_getElem? (i := 655) (by decide +kernel), List.mem_of_getElem? (i := 656) (by decide +kernel)⟩
theorem lw_p18 : lw_okq (⟨"NamePlateModel", "rowsOf", "(I)I"⟩, 7) := ⟨⟨by decide +kernel, by decide +kernel⟩, List.mem_of_getElem? (i := 575) (by decide +kernel), List.mem_of_getElem? (i := 659) (by decide +kernel), List.mem_of_getElem? (i := 660) (by decide +kernel)⟩
theorem lw_p19 : lw_okq (⟨"NamePlateModel", "greatest", "(IIII)I"⟩, 7) := ⟨⟨by decide +kernel, by decide +kernel⟩, List.mem_of_getElem? (i := 575) (by decide +kernel), List.mem_of_getElem? (i := 663) (by decide +kernel), List.mem_of_getElem? (i := 664) (by decide +kernel)⟩
theorem lw_p20 : lw_okq (⟨"NamePlateModel", "record", "()V"⟩, 7) := ⟨⟨by decide +kernel, by decide +kernel⟩, List.mem_of_getElem? (i := 575) (by decide +kernel), List.mem_of_getElem? (i := 674) (by decide +kernel), List.mem_of_getElem? (i := 675) (by decide +kernel)⟩
theorem lw_p21 : lw_okq (⟨"NamePlateModel", "sets", "(II)I"⟩, 7) := ⟨⟨by decide +kernel, by decide +kernel⟩, List.mem_of_getElem? (i := 575) (by decide +kernel), List.mem_of_getElem? (i := 682) (by decide +kernel), List.mem_of_getElem? (i := 683) (by decide +kernel)⟩
theorem lw_p22 : lw_okq (⟨"NamePlateModel", "isCut", "(II)Z"⟩, 7) := ⟨⟨by decide +kernel, by decide +kernel⟩, List.mem_of_getElem? (i := 575) (by decide +kernel), List.mem_of_getElem? (i := 700) (by decide +kernel), List.mem_of_getElem? (i := 701) (by decide +kernel)⟩
theorem lw_p23 : lw_okq (⟨"NamePlateModel", "isEngraved", "(I)Z"⟩, 7) := ⟨⟨by decide +kernel, by decide +kernel⟩, List.mem_of_getElem? (i := 575) (by decide +kernel), List.mem_of_getElem? (i := 704) (by decide +kernel), List.mem_of_getElem? (i := 705) (by decide +kernel)⟩
theorem lw_p24 : lw_okq (⟨"NamePlateModel", "faultOf", "()I"⟩, 7) := ⟨⟨by decide +kernel, by decide +kernel⟩, List.mem_of_getElem? (i := 575) (by decide +kernel), List.mem_of_getElem? (i := 720) (by decide +kernel), List.mem_of_getElem? (i := 721) (by decide +kernel)⟩
theorem lw_p25 : lw_okq (⟨"NamePlateModel", "namesInText", "()I"⟩, 7) := ⟨⟨by decide +kernel, by decide +kernel⟩, List.mem_of_getElem? (i := 575) (by decide +kernel), List.mem_of_getElem? (i := 724) (by decide +kernel), List.mem_of_getElem? (i := 725) (by decide +kernel)⟩
theorem lw_p26 : lw_okq (⟨"NamePlateModel", "noSeat", "(I)Z"⟩, 7) := ⟨⟨by decide +kernel, by decide +kernel⟩, List.mem_of_getElem? (i := 575) (by decide +kernel), List.mem_of_getElem? (i := 732) (by decide +kernel), List.mem_of_getElem? (i := 733) (by decide +kernel)⟩
theorem lw_p27 : lw_okq (⟨"NamePlateModel", "fits", "(II)Z"⟩, 7) := ⟨⟨by decide +kernel, by decide +kernel⟩, List.mem_of_getElem? (i := 575) (by decide +kernel), List.mem_of_getElem? (i := 745) (by decide +kernel), List.mem_of_getElem? (i := 746) (by decide +kernel)⟩
theorem lw_p28 : lw_okq (⟨"NamePlateModel", "column", "()I"⟩, 7) := ⟨⟨by decide +kernel, by decide +kernel⟩, List.mem_of_getElem? (i := 575) (by decide +kernel), List.mem_of_getElem? (i := 749) (by decide +kernel), List.mem_of_getElem? (i := 750) (by decide +kernel)⟩
theorem lw_p29 : lw_okq (⟨"NamePlateModel", "rowOf", "(I)I"⟩, 7) := ⟨⟨by decide +kernel, by decide +kernel⟩, List.mem_of_getElem? (i := 575) (by decide +kernel), List.mem_of_getElem? (i := 753) (by decide +kernel), List.mem_of_getElem? (i := 754) (by decide +kernel)⟩
theorem lw_p30 : lw_okq (⟨"NamePlateModel", "engraves", "(II)V"⟩, 7) := ⟨⟨by decide +kernel, by decide +kernel⟩, List.mem_of_getElem? (i := 575) (by decide +kernel), List.mem_of_getElem? (i := 757) (by decide +kernel), List.mem_of_getElem? (i := 758) (by decide +kernel)⟩
theorem lw_p31 : lw_okq (⟨"NamePlateModel", "begin", "(II)I"⟩, 7) := ⟨⟨by decide +kernel, by decide +kernel⟩, List.mem_of_getElem? (i := 575) (by decide +kernel), List.mem_of_getElem? (i := 761) (by decide +kernel), List.mem_of_getElem? (i := 762) (by decide +kernel)⟩
def lw_privs_2 : List (MethodName × Nat) := [(⟨"NamePlateModel", "adjusted", "(II)I"⟩, 7), (⟨"NamePlateModel", "placeOf", "(II)I"⟩, 7), (⟨"NamePlateModel", "rowsOf", "(I)I"⟩, 7), (⟨"NamePlateModel", "greatest", "(IIII)I"⟩, 7), (⟨"NamePlateModel", "record", "()V"⟩, 7), (⟨"NamePlateModel", "sets", "(II)I"⟩, 7), (⟨"NamePlateModel", "isCut", "(II)Z"⟩, 7), (⟨"NamePlateModel", "isEngraved", "(I)Z"⟩, 7), (⟨"NamePlateModel", "faultOf", "()I"⟩, 7), (⟨"NamePlateModel", "namesInText", "()I"⟩, 7), (⟨"NamePlateModel", "noSeat", "(I)Z"⟩, 7), (⟨"NamePlateModel", "fits", "(II)Z"⟩, 7), (⟨"NamePlateModel", "column", "()I"⟩, 7), (⟨"NamePlateModel", "rowOf", "(I)I"⟩, 7), (⟨"NamePlateModel", "engraves", "(II)V"⟩, 7), (⟨"NamePlateModel", "begin", "(II)I"⟩, 7)]
theorem lw_r2 : ∀ q ∈ lw_privs_2, lw_okq q := List.forall_mem_cons.mpr ⟨lw_p16, List.forall_mem_cons.mpr ⟨lw_p17, List.forall_mem_cons.mpr ⟨lw_p18, List.forall_mem_cons.mpr ⟨lw_p19, List.forall_mem_cons.mpr ⟨lw_p20, List.forall_mem_cons.mpr ⟨lw_p21, List.forall_mem_cons.mpr ⟨lw_p22, List.forall_mem_cons.mpr ⟨lw_p23, List.forall_mem_cons.mpr ⟨lw_p24, List.forall_mem_cons.mpr ⟨lw_p25, List.forall_mem_cons.mpr ⟨lw_p26, List.forall_mem_cons.mpr ⟨lw_p27, List.forall_mem_cons.mpr ⟨lw_p28, List.forall_mem_cons.mpr ⟨lw_p29, List.forall_mem_cons.mpr ⟨lw_p30, List.forall_mem_cons.mpr ⟨lw_p31, fun _ h => absurd h List.not_mem_nil⟩⟩⟩⟩⟩⟩⟩⟩⟩⟩⟩⟩⟩⟩⟩⟩
theorem lw_p32 : lw_okq (⟨"NamePlateModel", "inkOf", "(I)I"⟩, 7) := ⟨⟨by decide +kernel, by decide +kernel⟩, List.mem_of_getElem? (i := 575) (by decide +kernel), List.mem_of_getElem? (i := 765) (by decide +kernel), List.mem_of_getElem? (i := 766) (by decide +kernel)⟩
theorem lw_p33 : lw_okq (⟨"NamePlateModel", "columnBegin", "(I)I"⟩, 7) := ⟨⟨by decide +kernel, by decide +kernel⟩, List.mem_of_getElem? (i := 575) (by decide +kernel), List.mem_of_getElem? (i := 772) (by decide +kernel), List.mem_of_getElem? (i := 773) (by decide +kernel)⟩
def lw_privs_3 : List (MethodName × Nat) := [(⟨"NamePlateModel", "inkOf", "(I)I"⟩, 7), (⟨"NamePlateModel", "columnBegin", "(I)I"⟩, 7)]
theorem lw_r3 : ∀ q ∈ lw_privs_3, lw_okq q := List.forall_mem_cons.mpr ⟨lw_p32, List.forall_mem_cons.mpr ⟨lw_p33, fun _ h => absurd h List.not_mem_nil⟩⟩
def lw_privs : List (MethodName × Nat) := lw_privs_1 ++ (lw_privs_2 ++ (lw_privs_3))
def lw_tbl : List Cond := k2_sels lw_privs ++ tables_1
theorem lw_privs_ok : ∀ q ∈ lw_privs, lw_okq q := by
  show ∀ q ∈ lw_privs_1 ++ (lw_privs_2 ++ (lw_privs_3)), lw_okq q
  exact List.forall_mem_append.mpr ⟨lw_r1, List.forall_mem_append.mpr ⟨lw_r2, lw_r3⟩⟩
end
section
/-! ===== BEGIN words of one list among another's, by their places ===== -/
theorem goodIn_r {big : List Cond} (ws : List Cond) (ps : List Nat) (hp : ws = ps.filterMap (fun i => big[i]?)) (h : ws.all goodWord = true) : GoodIn big ws := by
  intro w hw
  have h1 := List.all_eq_true.mp h w hw
  rw [hp] at hw
  obtain ⟨i, -, hi⟩ := List.mem_filterMap.mp hw
  have hm : w ∈ big := by first | exact List.mem_of_getElem? hi | exact List.getElem?_mem hi
  exact ⟨hm, good_of_word h1⟩
theorem goodIn_app {big a b : List Cond} (ha : GoodIn big a) (hb : GoodIn big b) : GoodIn big (a ++ b) := fun w h => (List.mem_append.mp h).elim (ha w) (hb w)
theorem goodIn_ca {big a b : List Cond} {c : Cond} (ha : GoodIn big (c :: a)) (hb : GoodIn big b) : GoodIn big (c :: (a ++ b)) := fun w h => (List.mem_cons.mp h).elim (fun e => ha w (List.mem_cons.mpr (Or.inl e))) (fun h => (List.mem_append.mp h).elim (fun h => ha w (List.mem_cons.mpr (Or.inr h))) (hb w))
theorem goodIn_sub {big ws : List Cond} (hm : ∀ w ∈ ws, w ∈ big) (h : ws.all goodWord = true) : GoodIn big ws := fun w hw => ⟨hm w hw, good_of_word (List.all_eq_true.mp h w hw)⟩
/-! ===== END ===== -/

/-! ===== BEGIN printed: names, fields, word lists, decode rows ===== -/
def RX0 : String := "NamePlate$History"
def TX0 : u_T := fun k => match k with
  | 0 => ("NamePlate$History", "states", "[LNamePlate$State;", true)
  | 1 => ("NamePlate$History", "oldest", "I", false)
  | _ => ("NamePlate$History", "number", "I", false)
def tyX0 : Nat → FieldType := fun k => match k with
  | 0 => .array (.object "NamePlate$State")
  | 1 => .int
  | _ => .int
abbrev wsX00 : List Cond := u_ws RX0 TX0 3
theorem nmX0 : ∀ a, a < 3 → ∀ b, b < 3 → a ≠ b → (TX0 a).2.1 ≠ (TX0 b).2.1 := by decide +kernel
theorem tyX0_ok : ∀ k, k < 3 → parseFieldDescriptor (TX0 k).2.2.1 = some (tyX0 k) := by decide +kernel
abbrev cX0_init : ByteArray := prog_2_method_1_code
def yX0_init : MethodName := ⟨RX0, "<init>", "()V"⟩
abbrev cX0_record : ByteArray := prog_2_method_2_code
def yX0_record : MethodName := ⟨RX0, "record", "(LNamePlate$State;)V"⟩
abbrev cX0_takeLatest : ByteArray := prog_2_method_3_code
def yX0_takeLatest : MethodName := ⟨RX0, "takeLatest", "(LNamePlate$State;)V"⟩
abbrev cX0_slotAt : ByteArray := prog_2_method_4_code
def yX0_slotAt : MethodName := ⟨RX0, "slotAt", "(I)LNamePlate$State;"⟩
def RX1 : String := "NamePlate$Names"
def TX1 : u_T := fun k => match k with
  | 0 => ("NamePlate$Names", "codes", "[C", true)
  | 1 => ("NamePlate$Names", "lengths", "[I", true)
  | _ => ("NamePlate$Names", "number", "I", false)
def tyX1 : Nat → FieldType := fun k => match k with
  | 0 => .array .char
  | 1 => .array .int
  | _ => .int
abbrev wsX10 : List Cond := u_ws RX1 TX1 3
theorem nmX1 : ∀ a, a < 3 → ∀ b, b < 3 → a ≠ b → (TX1 a).2.1 ≠ (TX1 b).2.1 := by decide +kernel
theorem tyX1_ok : ∀ k, k < 3 → parseFieldDescriptor (TX1 k).2.2.1 = some (tyX1 k) := by decide +kernel
abbrev cX1_init : ByteArray := prog_3_method_1_code
def yX1_init : MethodName := ⟨RX1, "<init>", "()V"⟩
abbrev cX1_copyFrom : ByteArray := prog_3_method_2_code
def yX1_copyFrom : MethodName := ⟨RX1, "copyFrom", "(LNamePlate$Names;)V"⟩
abbrev cX1_isTaken : ByteArray := prog_3_method_3_code
def yX1_isTaken : MethodName := ⟨RX1, "isTaken", "(I)Z"⟩
abbrev cX1_isIn : ByteArray := prog_3_method_4_code
def yX1_isIn : MethodName := ⟨RX1, "isIn", "(II)Z"⟩
abbrev cX1_isLast : ByteArray := prog_3_method_5_code
def yX1_isLast : MethodName := ⟨RX1, "isLast", "(II)Z"⟩
abbrev cX1_lengthOf : ByteArray := prog_3_method_6_code
def yX1_lengthOf : MethodName := ⟨RX1, "lengthOf", "(I)I"⟩
abbrev cX1_codeAt : ByteArray := prog_3_method_7_code
def yX1_codeAt : MethodName := ⟨RX1, "codeAt", "(II)C"⟩
abbrev cX1_begin : ByteArray := prog_3_method_8_code
def yX1_begin : MethodName := ⟨RX1, "begin", "()V"⟩
abbrev cX1_append : ByteArray := prog_3_method_9_code
def yX1_append : MethodName := ⟨RX1, "append", "(C)V"⟩
abbrev cX1_takeOut : ByteArray := prog_3_method_10_code
def yX1_takeOut : MethodName := ⟨RX1, "takeOut", "(I)V"⟩
abbrev cX1_exchange : ByteArray := prog_3_method_11_code
def yX1_exchange : MethodName := ⟨RX1, "exchange", "(II)V"⟩
def RX2 : String := "NamePlate$Pairs"
def TX2 : u_T := fun k => match k with
  | 0 => ("NamePlate$Pairs", "lefts", "[C", true)
  | 1 => ("NamePlate$Pairs", "rights", "[C", true)
  | 2 => ("NamePlate$Pairs", "adjustments", "[I", true)
  | _ => ("NamePlate$Pairs", "number", "I", false)
def tyX2 : Nat → FieldType := fun k => match k with
  | 0 => .array .char
  | 1 => .array .char
  | 2 => .array .int
  | _ => .int
abbrev wsX20 : List Cond := u_ws RX2 TX2 4
theorem nmX2 : ∀ a, a < 4 → ∀ b, b < 4 → a ≠ b → (TX2 a).2.1 ≠ (TX2 b).2.1 := by decide +kernel
theorem tyX2_ok : ∀ k, k < 4 → parseFieldDescriptor (TX2 k).2.2.1 = some (tyX2 k) := by decide +kernel
abbrev cX2_init : ByteArray := prog_4_method_1_code
def yX2_init : MethodName := ⟨RX2, "<init>", "()V"⟩
abbrev cX2_copyFrom : ByteArray := prog_4_method_2_code
def yX2_copyFrom : MethodName := ⟨RX2, "copyFrom", "(LNamePlate$Pairs;)V"⟩
abbrev cX2_isFull : ByteArray := prog_4_method_3_code
def yX2_isFull : MethodName := ⟨RX2, "isFull", "()Z"⟩
abbrev cX2_isPlace : ByteArray := prog_4_method_4_code
def yX2_isPlace : MethodName := ⟨RX2, "isPlace", "(I)Z"⟩
abbrev cX2_leftAt : ByteArray := prog_4_method_5_code
def yX2_leftAt : MethodName := ⟨RX2, "leftAt", "(I)C"⟩
abbrev cX2_rightAt : ByteArray := prog_4_method_6_code
def yX2_rightAt : MethodName := ⟨RX2, "rightAt", "(I)C"⟩
abbrev cX2_adjustmentAt : ByteArray := prog_4_method_7_code
def yX2_adjustmentAt : MethodName := ⟨RX2, "adjustmentAt", "(I)I"⟩
abbrev cX2_placeOf : ByteArray := prog_4_method_8_code
def yX2_placeOf : MethodName := ⟨RX2, "placeOf", "(CC)I"⟩
abbrev cX2_put : ByteArray := prog_4_method_9_code
def yX2_put : MethodName := ⟨RX2, "put", "(CCI)V"⟩
abbrev cX2_append : ByteArray := prog_4_method_10_code
def yX2_append : MethodName := ⟨RX2, "append", "(CCI)V"⟩
abbrev cX2_takeOut : ByteArray := prog_4_method_11_code
def yX2_takeOut : MethodName := ⟨RX2, "takeOut", "(I)V"⟩
def RX3 : String := "NamePlate$Sign"
def TX3 : u_T := fun k => match k with
  | _ => ("", "", "", false)
def tyX3 : Nat → FieldType := fun k => match k with
  | _ => .int
abbrev wsX30 : List Cond := u_ws RX3 TX3 0
theorem nmX3 : ∀ a, a < 0 → ∀ b, b < 0 → a ≠ b → (TX3 a).2.1 ≠ (TX3 b).2.1 := by decide +kernel
theorem tyX3_ok : ∀ k, k < 0 → parseFieldDescriptor (TX3 k).2.2.1 = some (tyX3 k) := by decide +kernel
abbrev cX3_isLetter : ByteArray := prog_5_method_2_code
def yX3_isLetter : MethodName := ⟨RX3, "isLetter", "(C)Z"⟩
abbrev cX3_isMark : ByteArray := prog_5_method_3_code
def yX3_isMark : MethodName := ⟨RX3, "isMark", "(C)Z"⟩
abbrev cX3_isKnown : ByteArray := prog_5_method_4_code
def yX3_isKnown : MethodName := ⟨RX3, "isKnown", "(C)Z"⟩
abbrev cX3_width : ByteArray := prog_5_method_5_code
def yX3_width : MethodName := ⟨RX3, "width", "(C)I"⟩
abbrev cX3_openness : ByteArray := prog_5_method_6_code
def yX3_openness : MethodName := ⟨RX3, "openness", "(C)I"⟩
abbrev cX3_ink : ByteArray := prog_5_method_7_code
def yX3_ink : MethodName := ⟨RX3, "ink", "(C)I"⟩
def RX4 : String := "NamePlate$State"
def TX4 : u_T := fun k => match k with
  | 0 => ("NamePlate$State", "names", "LNamePlate$Names;", true)
  | 1 => ("NamePlate$State", "pairs", "LNamePlate$Pairs;", true)
  | 2 => ("NamePlate$State", "width", "I", false)
  | 3 => ("NamePlate$State", "height", "I", false)
  | 4 => ("NamePlate$State", "margin", "I", false)
  | 5 => ("NamePlate$State", "columns", "I", false)
  | 6 => ("NamePlate$State", "engraved", "I", false)
  | 7 => ("NamePlate$State", "engravedSize", "I", false)
  | 8 => ("NamePlate$State", "cuts", "I", false)
  | _ => ("NamePlate$State", "lost", "I", false)
def tyX4 : Nat → FieldType := fun k => match k with
  | 0 => .object "NamePlate$Names"
  | 1 => .object "NamePlate$Pairs"
  | 2 => .int
  | 3 => .int
  | 4 => .int
  | 5 => .int
  | 6 => .int
  | 7 => .int
  | 8 => .int
  | _ => .int
abbrev wsX40 : List Cond := u_ws RX4 TX4 10
theorem nmX4 : ∀ a, a < 10 → ∀ b, b < 10 → a ≠ b → (TX4 a).2.1 ≠ (TX4 b).2.1 := by decide +kernel
theorem tyX4_ok : ∀ k, k < 10 → parseFieldDescriptor (TX4 k).2.2.1 = some (tyX4 k) := by decide +kernel
abbrev cX4_init : ByteArray := prog_6_method_1_code
def yX4_init : MethodName := ⟨RX4, "<init>", "()V"⟩
abbrev cX4_copyFrom : ByteArray := prog_6_method_2_code
def yX4_copyFrom : MethodName := ⟨RX4, "copyFrom", "(LNamePlate$State;)V"⟩
abbrev cX4_cutAnew : ByteArray := prog_6_method_3_code
def yX4_cutAnew : MethodName := ⟨RX4, "cutAnew", "(II)I"⟩
abbrev cX4_hasEngraved : ByteArray := prog_6_method_4_code
def yX4_hasEngraved : MethodName := ⟨RX4, "hasEngraved", "()Z"⟩
abbrev cX4_engravedNames : ByteArray := prog_6_method_5_code
def yX4_engravedNames : MethodName := ⟨RX4, "engravedNames", "()I"⟩
abbrev cX4_isEngraved : ByteArray := prog_6_method_6_code
def yX4_isEngraved : MethodName := ⟨RX4, "isEngraved", "(I)Z"⟩
abbrev cX4_isEngravedFrom : ByteArray := prog_6_method_7_code
def yX4_isEngravedFrom : MethodName := ⟨RX4, "isEngravedFrom", "(I)Z"⟩
abbrev cX4_engravableSeats : ByteArray := prog_6_method_8_code
def yX4_engravableSeats : MethodName := ⟨RX4, "engravableSeats", "(I)I"⟩
abbrev cX4_markEngraved : ByteArray := prog_6_method_9_code
def yX4_markEngraved : MethodName := ⟨RX4, "markEngraved", "(II)V"⟩
abbrev cX4_isEngravedPair : ByteArray := prog_6_method_10_code
def yX4_isEngravedPair : MethodName := ⟨RX4, "isEngravedPair", "(CC)Z"⟩
abbrev cX4_hasPair : ByteArray := prog_6_method_11_code
def yX4_hasPair : MethodName := ⟨RX4, "hasPair", "(ICC)Z"⟩
abbrev cX4_adjustmentOf : ByteArray := prog_6_method_12_code
def yX4_adjustmentOf : MethodName := ⟨RX4, "adjustmentOf", "(CC)I"⟩
abbrev cX4_spaceBehind : ByteArray := prog_6_method_13_code
def yX4_spaceBehind : MethodName := ⟨RX4, "spaceBehind", "(II)I"⟩
abbrev cX4_measuredSpace : ByteArray := prog_6_method_14_code
def yX4_measuredSpace : MethodName := ⟨RX4, "measuredSpace", "(II)I"⟩
abbrev cX4_unitsBefore : ByteArray := prog_6_method_15_code
def yX4_unitsBefore : MethodName := ⟨RX4, "unitsBefore", "(II)I"⟩
abbrev cX4_unitsOf : ByteArray := prog_6_method_16_code
def yX4_unitsOf : MethodName := ⟨RX4, "unitsOf", "(I)I"⟩
abbrev cX4_inkOf : ByteArray := prog_6_method_17_code
def yX4_inkOf : MethodName := ⟨RX4, "inkOf", "(I)I"⟩
abbrev cX4_mostUnits : ByteArray := prog_6_method_18_code
def yX4_mostUnits : MethodName := ⟨RX4, "mostUnits", "(I)I"⟩
abbrev cX4_rowOf : ByteArray := prog_6_method_19_code
def yX4_rowOf : MethodName := ⟨RX4, "rowOf", "(I)I"⟩
abbrev cX4_columnOf : ByteArray := prog_6_method_20_code
def yX4_columnOf : MethodName := ⟨RX4, "columnOf", "(I)I"⟩
abbrev cX4_rowsFor : ByteArray := prog_6_method_21_code
def yX4_rowsFor : MethodName := ⟨RX4, "rowsFor", "(I)I"⟩
abbrev cX4_rowBegin : ByteArray := prog_6_method_22_code
def yX4_rowBegin : MethodName := ⟨RX4, "rowBegin", "(II)I"⟩
abbrev cX4_columnWidth : ByteArray := prog_6_method_23_code
def yX4_columnWidth : MethodName := ⟨RX4, "columnWidth", "(I)I"⟩
abbrev cX4_columnBegin : ByteArray := prog_6_method_24_code
def yX4_columnBegin : MethodName := ⟨RX4, "columnBegin", "(I)I"⟩
abbrev cX4_sizeNow : ByteArray := prog_6_method_25_code
def yX4_sizeNow : MethodName := ⟨RX4, "sizeNow", "()I"⟩
abbrev cX4_greatestSize : ByteArray := prog_6_method_26_code
def yX4_greatestSize : MethodName := ⟨RX4, "greatestSize", "(IIII)I"⟩
abbrev cX4_fits : ByteArray := prog_6_method_27_code
def yX4_fits : MethodName := ⟨RX4, "fits", "(II)Z"⟩
abbrev cX4_beginOf : ByteArray := prog_6_method_28_code
def yX4_beginOf : MethodName := ⟨RX4, "beginOf", "(II)I"⟩
abbrev cX4_twiceInkMoment : ByteArray := prog_6_method_29_code
def yX4_twiceInkMoment : MethodName := ⟨RX4, "twiceInkMoment", "(I)I"⟩
abbrev cX4_middleBegin : ByteArray := prog_6_method_30_code
def yX4_middleBegin : MethodName := ⟨RX4, "middleBegin", "(II)I"⟩
abbrev cX4_indexAt : ByteArray := prog_6_method_31_code
def yX4_indexAt : MethodName := ⟨RX4, "indexAt", "(III)I"⟩
abbrev cX4_quotient : ByteArray := prog_6_method_32_code
def yX4_quotient : MethodName := ⟨RX4, "quotient", "(II)I"⟩
def RX5 : String := "NamePlate$Text"
def TX5 : u_T := fun k => match k with
  | 0 => ("NamePlate$Text", "characters", "[C", true)
  | _ => ("NamePlate$Text", "length", "I", false)
def tyX5 : Nat → FieldType := fun k => match k with
  | 0 => .array .char
  | _ => .int
abbrev wsX50 : List Cond := u_ws RX5 TX5 2
theorem nmX5 : ∀ a, a < 2 → ∀ b, b < 2 → a ≠ b → (TX5 a).2.1 ≠ (TX5 b).2.1 := by decide +kernel
theorem tyX5_ok : ∀ k, k < 2 → parseFieldDescriptor (TX5 k).2.2.1 = some (tyX5 k) := by decide +kernel
abbrev cX5_init : ByteArray := prog_7_method_1_code
def yX5_init : MethodName := ⟨RX5, "<init>", "()V"⟩
abbrev cX5_isFull : ByteArray := prog_7_method_2_code
def yX5_isFull : MethodName := ⟨RX5, "isFull", "()Z"⟩
abbrev cX5_append : ByteArray := prog_7_method_3_code
def yX5_append : MethodName := ⟨RX5, "append", "(C)V"⟩
abbrev cX5_characterAt : ByteArray := prog_7_method_4_code
def yX5_characterAt : MethodName := ⟨RX5, "characterAt", "(I)C"⟩
abbrev cX5_namesInIt : ByteArray := prog_7_method_5_code
def yX5_namesInIt : MethodName := ⟨RX5, "namesInIt", "()I"⟩
abbrev cX5_fault : ByteArray := prog_7_method_6_code
def yX5_fault : MethodName := ⟨RX5, "fault", "()I"⟩
abbrev cX5_isAllowed : ByteArray := prog_7_method_7_code
def yX5_isAllowed : MethodName := ⟨RX5, "isAllowed", "(CIZ)Z"⟩
def RX6 : String := "NamePlate"
def TX6 : u_T := fun k => match k with
  | 0 => ("NamePlate", "now", "LNamePlate$State;", true)
  | 1 => ("NamePlate", "snapshot", "LNamePlate$State;", true)
  | 2 => ("NamePlate", "history", "LNamePlate$History;", true)
  | 3 => ("NamePlate", "text", "LNamePlate$Text;", true)
  | _ => ("NamePlate", "hasSnapshot", "Z", false)
def tyX6 : Nat → FieldType := fun k => match k with
  | 0 => .object "NamePlate$State"
  | 1 => .object "NamePlate$State"
  | 2 => .object "NamePlate$History"
  | 3 => .object "NamePlate$Text"
  | _ => .boolean
abbrev wsX60 : List Cond := u_ws RX6 TX6 5
theorem nmX6 : ∀ a, a < 5 → ∀ b, b < 5 → a ≠ b → (TX6 a).2.1 ≠ (TX6 b).2.1 := by decide +kernel
theorem tyX6_ok : ∀ k, k < 5 → parseFieldDescriptor (TX6 k).2.2.1 = some (tyX6 k) := by decide +kernel
abbrev cX6_init : ByteArray := prog_1_method_1_code
def yX6_init : MethodName := ⟨RX6, "<init>", "()V"⟩
abbrev cX6_recut : ByteArray := prog_1_method_2_code
def yX6_recut : MethodName := ⟨RX6, "recut", "(II)I"⟩
abbrev cX6_setMargin : ByteArray := prog_1_method_3_code
def yX6_setMargin : MethodName := ⟨RX6, "setMargin", "(I)I"⟩
abbrev cX6_setColumns : ByteArray := prog_1_method_4_code
def yX6_setColumns : MethodName := ⟨RX6, "setColumns", "(I)I"⟩
abbrev cX6_adjust : ByteArray := prog_1_method_5_code
def yX6_adjust : MethodName := ⟨RX6, "adjust", "(CCI)I"⟩
abbrev cX6_type : ByteArray := prog_1_method_6_code
def yX6_type : MethodName := ⟨RX6, "type", "(C)I"⟩
abbrev cX6_clearText : ByteArray := prog_1_method_7_code
def yX6_clearText : MethodName := ⟨RX6, "clearText", "()I"⟩
abbrev cX6_readNames : ByteArray := prog_1_method_8_code
def yX6_readNames : MethodName := ⟨RX6, "readNames", "()I"⟩
abbrev cX6_addNamesOfText : ByteArray := prog_1_method_9_code
def yX6_addNamesOfText : MethodName := ⟨RX6, "addNamesOfText", "()V"⟩
abbrev cX6_remove : ByteArray := prog_1_method_10_code
def yX6_remove : MethodName := ⟨RX6, "remove", "(I)I"⟩
abbrev cX6_swap : ByteArray := prog_1_method_11_code
def yX6_swap : MethodName := ⟨RX6, "swap", "(II)I"⟩
abbrev cX6_engrave : ByteArray := prog_1_method_12_code
def yX6_engrave : MethodName := ⟨RX6, "engrave", "(I)I"⟩
abbrev cX6_engraveAll : ByteArray := prog_1_method_13_code
def yX6_engraveAll : MethodName := ⟨RX6, "engraveAll", "()I"⟩
abbrev cX6_undo : ByteArray := prog_1_method_14_code
def yX6_undo : MethodName := ⟨RX6, "undo", "()I"⟩
abbrev cX6_keep : ByteArray := prog_1_method_15_code
def yX6_keep : MethodName := ⟨RX6, "keep", "()I"⟩
abbrev cX6_restore : ByteArray := prog_1_method_16_code
def yX6_restore : MethodName := ⟨RX6, "restore", "()I"⟩
abbrev cX6_name : ByteArray := prog_1_method_17_code
def yX6_name : MethodName := ⟨RX6, "name", "(II)I"⟩
abbrev cX6_nameBySize : ByteArray := prog_1_method_18_code
def yX6_nameBySize : MethodName := ⟨RX6, "nameBySize", "(III)I"⟩
abbrev cX6_sign : ByteArray := prog_1_method_19_code
def yX6_sign : MethodName := ⟨RX6, "sign", "(III)I"⟩
abbrev cX6_signBegin : ByteArray := prog_1_method_20_code
def yX6_signBegin : MethodName := ⟨RX6, "signBegin", "(III)I"⟩
abbrev cX6_signAt : ByteArray := prog_1_method_21_code
def yX6_signAt : MethodName := ⟨RX6, "signAt", "(II)I"⟩
abbrev cX6_size : ByteArray := prog_1_method_22_code
def yX6_size : MethodName := ⟨RX6, "size", "()I"⟩
abbrev cX6_sizeBy : ByteArray := prog_1_method_23_code
def yX6_sizeBy : MethodName := ⟨RX6, "sizeBy", "(II)I"⟩
abbrev cX6_sizeWithout : ByteArray := prog_1_method_24_code
def yX6_sizeWithout : MethodName := ⟨RX6, "sizeWithout", "(I)I"⟩
abbrev cX6_leastWidth : ByteArray := prog_1_method_25_code
def yX6_leastWidth : MethodName := ⟨RX6, "leastWidth", "(I)I"⟩
abbrev cX6_longest : ByteArray := prog_1_method_26_code
def yX6_longest : MethodName := ⟨RX6, "longest", "()I"⟩
abbrev cX6_adjustment : ByteArray := prog_1_method_27_code
def yX6_adjustment : MethodName := ⟨RX6, "adjustment", "(CC)I"⟩
abbrev cX6_pair : ByteArray := prog_1_method_28_code
def yX6_pair : MethodName := ⟨RX6, "pair", "(II)I"⟩
abbrev cX6_count : ByteArray := prog_1_method_29_code
def yX6_count : MethodName := ⟨RX6, "count", "(I)I"⟩
abbrev cX6_isPlate : ByteArray := prog_1_method_30_code
def yX6_isPlate : MethodName := ⟨RX6, "isPlate", "(II)Z"⟩
def RX7 : String := "NamePlateModel"
def TX7 : u_T := fun k => match k with
  | 0 => ("NamePlateModel", "now", "[I", true)
  | 1 => ("NamePlateModel", "history", "[I", true)
  | 2 => ("NamePlateModel", "kept", "I", false)
  | 3 => ("NamePlateModel", "slot", "[I", true)
  | 4 => ("NamePlateModel", "isFilled", "Z", false)
  | 5 => ("NamePlateModel", "typed", "I", false)
  | _ => ("NamePlateModel", "text", "[C", true)
def tyX7 : Nat → FieldType := fun k => match k with
  | 0 => .array .int
  | 1 => .array .int
  | 2 => .int
  | 3 => .array .int
  | 4 => .boolean
  | 5 => .int
  | _ => .array .char
abbrev wsX70 : List Cond := u_ws RX7 TX7 7
theorem nmX7 : ∀ a, a < 7 → ∀ b, b < 7 → a ≠ b → (TX7 a).2.1 ≠ (TX7 b).2.1 := by decide +kernel
theorem tyX7_ok : ∀ k, k < 7 → parseFieldDescriptor (TX7 k).2.2.1 = some (tyX7 k) := by decide +kernel
abbrev cX7_init : ByteArray := prog_9_method_1_code
def yX7_init : MethodName := ⟨RX7, "<init>", "()V"⟩
abbrev cX7_in : ByteArray := prog_9_method_2_code
def yX7_in : MethodName := ⟨RX7, "in", "(III)Z"⟩
abbrev cX7_record : ByteArray := prog_9_method_3_code
def yX7_record : MethodName := ⟨RX7, "record", "()V"⟩
abbrev cX7_isLetter : ByteArray := prog_9_method_4_code
def yX7_isLetter : MethodName := ⟨RX7, "isLetter", "(I)Z"⟩
abbrev cX7_isPoint : ByteArray := prog_9_method_5_code
def yX7_isPoint : MethodName := ⟨RX7, "isPoint", "(I)Z"⟩
abbrev cX7_wide : ByteArray := prog_9_method_6_code
def yX7_wide : MethodName := ⟨RX7, "wide", "(I)I"⟩
abbrev cX7_open : ByteArray := prog_9_method_7_code
def yX7_open : MethodName := ⟨RX7, "open", "(I)I"⟩
abbrev cX7_ink : ByteArray := prog_9_method_8_code
def yX7_ink : MethodName := ⟨RX7, "ink", "(I)I"⟩
abbrev cX7_placeOf : ByteArray := prog_9_method_9_code
def yX7_placeOf : MethodName := ⟨RX7, "placeOf", "(II)I"⟩
abbrev cX7_adjusted : ByteArray := prog_9_method_10_code
def yX7_adjusted : MethodName := ⟨RX7, "adjusted", "(II)I"⟩
abbrev cX7_space : ByteArray := prog_9_method_11_code
def yX7_space : MethodName := ⟨RX7, "space", "(II)I"⟩
abbrev cX7_noSeat : ByteArray := prog_9_method_12_code
def yX7_noSeat : MethodName := ⟨RX7, "noSeat", "(I)Z"⟩
abbrev cX7_of : ByteArray := prog_9_method_13_code
def yX7_of : MethodName := ⟨RX7, "of", "(II)I"⟩
abbrev cX7_signOf : ByteArray := prog_9_method_14_code
def yX7_signOf : MethodName := ⟨RX7, "signOf", "(II)I"⟩
abbrev cX7_isEngraved : ByteArray := prog_9_method_15_code
def yX7_isEngraved : MethodName := ⟨RX7, "isEngraved", "(I)Z"⟩
abbrev cX7_engraved : ByteArray := prog_9_method_16_code
def yX7_engraved : MethodName := ⟨RX7, "engraved", "()I"⟩
abbrev cX7_unitsTo : ByteArray := prog_9_method_17_code
def yX7_unitsTo : MethodName := ⟨RX7, "unitsTo", "(II)I"⟩
abbrev cX7_units : ByteArray := prog_9_method_18_code
def yX7_units : MethodName := ⟨RX7, "units", "(I)I"⟩
abbrev cX7_inkOf : ByteArray := prog_9_method_19_code
def yX7_inkOf : MethodName := ⟨RX7, "inkOf", "(I)I"⟩
abbrev cX7_columnWide : ByteArray := prog_9_method_20_code
def yX7_columnWide : MethodName := ⟨RX7, "columnWide", "(III)I"⟩
abbrev cX7_column : ByteArray := prog_9_method_21_code
def yX7_column : MethodName := ⟨RX7, "column", "()I"⟩
abbrev cX7_greatest : ByteArray := prog_9_method_22_code
def yX7_greatest : MethodName := ⟨RX7, "greatest", "(IIII)I"⟩
abbrev cX7_rowsOf : ByteArray := prog_9_method_23_code
def yX7_rowsOf : MethodName := ⟨RX7, "rowsOf", "(I)I"⟩
abbrev cX7_mostUnits : ByteArray := prog_9_method_24_code
def yX7_mostUnits : MethodName := ⟨RX7, "mostUnits", "(I)I"⟩
abbrev cX7_free : ByteArray := prog_9_method_25_code
def yX7_free : MethodName := ⟨RX7, "free", "(II)I"⟩
abbrev cX7_size : ByteArray := prog_9_method_26_code
def yX7_size : MethodName := ⟨RX7, "size", "()I"⟩
abbrev cX7_rowOf : ByteArray := prog_9_method_27_code
def yX7_rowOf : MethodName := ⟨RX7, "rowOf", "(I)I"⟩
abbrev cX7_columnBegin : ByteArray := prog_9_method_28_code
def yX7_columnBegin : MethodName := ⟨RX7, "columnBegin", "(I)I"⟩
abbrev cX7_fits : ByteArray := prog_9_method_29_code
def yX7_fits : MethodName := ⟨RX7, "fits", "(II)Z"⟩
abbrev cX7_down : ByteArray := prog_9_method_30_code
def yX7_down : MethodName := ⟨RX7, "down", "(II)I"⟩
abbrev cX7_begin : ByteArray := prog_9_method_31_code
def yX7_begin : MethodName := ⟨RX7, "begin", "(II)I"⟩
abbrev cX7_recut : ByteArray := prog_9_method_32_code
def yX7_recut : MethodName := ⟨RX7, "recut", "(II)I"⟩
abbrev cX7_sets : ByteArray := prog_9_method_33_code
def yX7_sets : MethodName := ⟨RX7, "sets", "(II)I"⟩
abbrev cX7_setMargin : ByteArray := prog_9_method_34_code
def yX7_setMargin : MethodName := ⟨RX7, "setMargin", "(I)I"⟩
abbrev cX7_setColumns : ByteArray := prog_9_method_35_code
def yX7_setColumns : MethodName := ⟨RX7, "setColumns", "(I)I"⟩
abbrev cX7_isCut : ByteArray := prog_9_method_36_code
def yX7_isCut : MethodName := ⟨RX7, "isCut", "(II)Z"⟩
abbrev cX7_areSigns : ByteArray := prog_9_method_37_code
def yX7_areSigns : MethodName := ⟨RX7, "areSigns", "(II)Z"⟩
abbrev cX7_adjust : ByteArray := prog_9_method_38_code
def yX7_adjust : MethodName := ⟨RX7, "adjust", "(CCI)I"⟩
abbrev cX7_type : ByteArray := prog_9_method_39_code
def yX7_type : MethodName := ⟨RX7, "type", "(C)I"⟩
abbrev cX7_clearText : ByteArray := prog_9_method_40_code
def yX7_clearText : MethodName := ⟨RX7, "clearText", "()I"⟩
abbrev cX7_faultOf : ByteArray := prog_9_method_41_code
def yX7_faultOf : MethodName := ⟨RX7, "faultOf", "()I"⟩
abbrev cX7_namesInText : ByteArray := prog_9_method_42_code
def yX7_namesInText : MethodName := ⟨RX7, "namesInText", "()I"⟩
abbrev cX7_readNames : ByteArray := prog_9_method_43_code
def yX7_readNames : MethodName := ⟨RX7, "readNames", "()I"⟩
abbrev cX7_remove : ByteArray := prog_9_method_44_code
def yX7_remove : MethodName := ⟨RX7, "remove", "(I)I"⟩
abbrev cX7_swap : ByteArray := prog_9_method_45_code
def yX7_swap : MethodName := ⟨RX7, "swap", "(II)I"⟩
abbrev cX7_engraves : ByteArray := prog_9_method_46_code
def yX7_engraves : MethodName := ⟨RX7, "engraves", "(II)V"⟩
abbrev cX7_engrave : ByteArray := prog_9_method_47_code
def yX7_engrave : MethodName := ⟨RX7, "engrave", "(I)I"⟩
abbrev cX7_engraveAll : ByteArray := prog_9_method_48_code
def yX7_engraveAll : MethodName := ⟨RX7, "engraveAll", "()I"⟩
abbrev cX7_undo : ByteArray := prog_9_method_49_code
def yX7_undo : MethodName := ⟨RX7, "undo", "()I"⟩
abbrev cX7_keep : ByteArray := prog_9_method_50_code
def yX7_keep : MethodName := ⟨RX7, "keep", "()I"⟩
abbrev cX7_restore : ByteArray := prog_9_method_51_code
def yX7_restore : MethodName := ⟨RX7, "restore", "()I"⟩
abbrev cX7_name : ByteArray := prog_9_method_52_code
def yX7_name : MethodName := ⟨RX7, "name", "(II)I"⟩
abbrev cX7_sign : ByteArray := prog_9_method_53_code
def yX7_sign : MethodName := ⟨RX7, "sign", "(III)I"⟩
abbrev cX7_signAt : ByteArray := prog_9_method_54_code
def yX7_signAt : MethodName := ⟨RX7, "signAt", "(II)I"⟩
abbrev cX7_sizeBy : ByteArray := prog_9_method_55_code
def yX7_sizeBy : MethodName := ⟨RX7, "sizeBy", "(II)I"⟩
abbrev cX7_sizeWithout : ByteArray := prog_9_method_56_code
def yX7_sizeWithout : MethodName := ⟨RX7, "sizeWithout", "(I)I"⟩
abbrev cX7_leastWidth : ByteArray := prog_9_method_57_code
def yX7_leastWidth : MethodName := ⟨RX7, "leastWidth", "(I)I"⟩
abbrev cX7_longest : ByteArray := prog_9_method_58_code
def yX7_longest : MethodName := ⟨RX7, "longest", "()I"⟩
abbrev cX7_adjustment : ByteArray := prog_9_method_59_code
def yX7_adjustment : MethodName := ⟨RX7, "adjustment", "(CC)I"⟩
abbrev cX7_pair : ByteArray := prog_9_method_60_code
def yX7_pair : MethodName := ⟨RX7, "pair", "(II)I"⟩
abbrev cX7_count : ByteArray := prog_9_method_61_code
def yX7_count : MethodName := ⟨RX7, "count", "(I)I"⟩
def RJ6 : String := "java/lang/Integer"
def TJ6 : u_T := fun k => match k with
  | _ => ("", "", "", false)
def tyJ6 : Nat → FieldType := fun k => match k with
  | _ => .int
abbrev wsJ60 : List Cond := u_ws RJ6 TJ6 0
theorem nmJ6 : ∀ a, a < 0 → ∀ b, b < 0 → a ≠ b → (TJ6 a).2.1 ≠ (TJ6 b).2.1 := by decide +kernel
theorem tyJ6_ok : ∀ k, k < 0 → parseFieldDescriptor (TJ6 k).2.2.1 = some (tyJ6 k) := by decide +kernel
abbrev cJ6_bitCount_0f7a4 : ByteArray := prog_10_method_49_code
def yJ6_bitCount_0f7a4 : MethodName := ⟨RJ6, "bitCount", "(I)I"⟩
def RJ9 : String := "java/lang/Math"
def TJ9 : u_T := fun k => match k with
  | _ => ("", "", "", false)
def tyJ9 : Nat → FieldType := fun k => match k with
  | _ => .int
abbrev wsJ90 : List Cond := u_ws RJ9 TJ9 0
theorem nmJ9 : ∀ a, a < 0 → ∀ b, b < 0 → a ≠ b → (TJ9 a).2.1 ≠ (TJ9 b).2.1 := by decide +kernel
theorem tyJ9_ok : ∀ k, k < 0 → parseFieldDescriptor (TJ9 k).2.2.1 = some (tyJ9 k) := by decide +kernel
abbrev cJ9_floorDiv_7cf53 : ByteArray := prog_11_method_47_code
def yJ9_floorDiv_7cf53 : MethodName := ⟨RJ9, "floorDiv", "(II)I"⟩
abbrev cJ9_max_7cf53 : ByteArray := prog_11_method_65_code
def yJ9_max_7cf53 : MethodName := ⟨RJ9, "max", "(II)I"⟩
abbrev cJ9_min_7cf53 : ByteArray := prog_11_method_69_code
def yJ9_min_7cf53 : MethodName := ⟨RJ9, "min", "(II)I"⟩
def RJ10 : String := "java/lang/System"
def TJ10 : u_T := fun k => match k with
  | _ => ("", "", "", false)
def tyJ10 : Nat → FieldType := fun k => match k with
  | _ => .int
abbrev wsJ100 : List Cond := u_ws RJ10 TJ10 0
theorem nmJ10 : ∀ a, a < 0 → ∀ b, b < 0 → a ≠ b → (TJ10 a).2.1 ≠ (TJ10 b).2.1 := by decide +kernel
theorem tyJ10_ok : ∀ k, k < 0 → parseFieldDescriptor (TJ10 k).2.2.1 = some (tyJ10 k) := by decide +kernel
def RL : String := "NamePlateLaw"
abbrev cL_law : ByteArray := code
def yL_law : MethodName := ⟨RL, "law", "([I)Z"⟩
def wsX1_init : List Cond := .code yX1_init cX1_init 1 none :: ([.methodLink RX1 3 objectInit, .instanceMethod objectInit, .code objectInit ⟨#[0xb1]⟩ 1 none, .arrayClass .char, .fieldLink RX1 9 "NamePlate$Names" "codes" "[C", .arrayClass .int, .fieldLink RX1 15 "NamePlate$Names" "lengths" "[I", .fieldLink RX1 19 "NamePlate$Names" "number" "I"] ++ wsX10)
def wsX2_init : List Cond := .code yX2_init cX2_init 1 none :: ([.methodLink RX2 3 objectInit, .instanceMethod objectInit, .code objectInit ⟨#[0xb1]⟩ 1 none, .arrayClass .char, .fieldLink RX2 9 "NamePlate$Pairs" "lefts" "[C", .fieldLink RX2 15 "NamePlate$Pairs" "rights" "[C", .arrayClass .int, .fieldLink RX2 18 "NamePlate$Pairs" "adjustments" "[I", .fieldLink RX2 22 "NamePlate$Pairs" "number" "I"] ++ wsX20)
def wsX4_init_r1 : List Cond := [Cond.methodLink RX4 3 objectInit, Cond.instanceMethod objectInit, Cond.code objectInit ⟨#[0xb1]⟩ 1 none, Cond.classLink RX4 9 RX1, Cond.instantiable RX1 3, Cond.initialized RX1, Cond.fieldLink RX4 12 "NamePlate$State" "names" "LNamePlate$Names;", Cond.classLink RX4 18 RX2, Cond.instantiable RX2 4, Cond.initialized RX2, Cond.fieldLink RX4 21 "NamePlate$State" "pairs" "LNamePlate$Pairs;", Cond.fieldLink RX4 25 "NamePlate$State" "width" "I", Cond.fieldLink RX4 29 "NamePlate$State" "height" "I", Cond.fieldLink RX4 32 "NamePlate$State" "margin" "I", Cond.fieldLink RX4 35 "NamePlate$State" "columns" "I", Cond.fieldLink RX4 38 "NamePlate$State" "engraved" "I", Cond.fieldLink RX4 41 "NamePlate$State" "engravedSize" "I", Cond.fieldLink RX4 44 "NamePlate$State" "cuts" "I", Cond.fieldLink RX4 47 "NamePlate$State" "lost" "I", Cond.instanceMethod yX1_init, Cond.code yX1_init cX1_init 1 none, Cond.methodLink RX1 3 objectInit, Cond.arrayClass .char, Cond.fieldLink RX1 9 "NamePlate$Names" "codes" "[C"]
def wsX4_init_r2 : List Cond := [Cond.arrayClass .int, Cond.fieldLink RX1 15 "NamePlate$Names" "lengths" "[I", Cond.fieldLink RX1 19 "NamePlate$Names" "number" "I", Cond.instanceMethod yX2_init, Cond.code yX2_init cX2_init 1 none, Cond.methodLink RX2 3 objectInit, Cond.fieldLink RX2 9 "NamePlate$Pairs" "lefts" "[C", Cond.fieldLink RX2 15 "NamePlate$Pairs" "rights" "[C", Cond.fieldLink RX2 18 "NamePlate$Pairs" "adjustments" "[I", Cond.fieldLink RX2 22 "NamePlate$Pairs" "number" "I"]
def wsX4_init : List Cond := .code yX4_init cX4_init 1 none :: ((wsX4_init_r1 ++ wsX4_init_r2) ++ wsX10 ++ wsX40 ++ wsX20)
def wsX0_init_r1 : List Cond := [Cond.methodLink RX0 3 objectInit, Cond.instanceMethod objectInit, Cond.code objectInit ⟨#[0xb1]⟩ 1 none, Cond.classLink RX0 9 RX4, Cond.fieldLink RX0 11 "NamePlate$History" "states" "[LNamePlate$State;", Cond.fieldLink RX0 17 "NamePlate$History" "oldest" "I", Cond.fieldLink RX0 21 "NamePlate$History" "number" "I", Cond.instantiable RX4 10, Cond.initialized RX4, Cond.instanceMethod yX4_init, Cond.code yX4_init cX4_init 1 none, Cond.methodLink RX4 3 objectInit, Cond.classLink RX4 9 RX1, Cond.instantiable RX1 3, Cond.initialized RX1, Cond.fieldLink RX4 12 "NamePlate$State" "names" "LNamePlate$Names;", Cond.classLink RX4 18 RX2, Cond.instantiable RX2 4, Cond.initialized RX2, Cond.fieldLink RX4 21 "NamePlate$State" "pairs" "LNamePlate$Pairs;", Cond.fieldLink RX4 25 "NamePlate$State" "width" "I", Cond.fieldLink RX4 29 "NamePlate$State" "height" "I", Cond.fieldLink RX4 32 "NamePlate$State" "margin" "I", Cond.fieldLink RX4 35 "NamePlate$State" "columns" "I"]
def wsX0_init_r2 : List Cond := [Cond.fieldLink RX4 38 "NamePlate$State" "engraved" "I", Cond.fieldLink RX4 41 "NamePlate$State" "engravedSize" "I", Cond.fieldLink RX4 44 "NamePlate$State" "cuts" "I", Cond.fieldLink RX4 47 "NamePlate$State" "lost" "I", Cond.instanceMethod yX1_init, Cond.code yX1_init cX1_init 1 none, Cond.methodLink RX1 3 objectInit, Cond.arrayClass .char, Cond.fieldLink RX1 9 "NamePlate$Names" "codes" "[C", Cond.arrayClass .int, Cond.fieldLink RX1 15 "NamePlate$Names" "lengths" "[I", Cond.fieldLink RX1 19 "NamePlate$Names" "number" "I", Cond.instanceMethod yX2_init, Cond.code yX2_init cX2_init 1 none, Cond.methodLink RX2 3 objectInit, Cond.fieldLink RX2 9 "NamePlate$Pairs" "lefts" "[C", Cond.fieldLink RX2 15 "NamePlate$Pairs" "rights" "[C", Cond.fieldLink RX2 18 "NamePlate$Pairs" "adjustments" "[I", Cond.fieldLink RX2 22 "NamePlate$Pairs" "number" "I"]
def wsX0_init : List Cond := .code yX0_init cX0_init 2 none :: ((wsX0_init_r1 ++ wsX0_init_r2) ++ wsX00 ++ wsX40 ++ wsX10 ++ wsX20)
def wsX0_slotAt : List Cond := .code yX0_slotAt cX0_slotAt 3 (some (.object "NamePlate$State")) :: ([.fieldLink RX0 17 "NamePlate$History" "oldest" "I", .fieldLink RX0 11 "NamePlate$History" "states" "[LNamePlate$State;"] ++ wsX00)
def wsX1_copyFrom : List Cond := .code yX1_copyFrom cX1_copyFrom 2 none :: ([.fieldLink RX1 9 "NamePlate$Names" "codes" "[C", .methodLink RX1 23 arraycopyName, .native arraycopyName, .static arraycopyName, .initialized "java/lang/System", .fieldLink RX1 15 "NamePlate$Names" "lengths" "[I", .fieldLink RX1 19 "NamePlate$Names" "number" "I"] ++ wsX10)
def wsX2_copyFrom : List Cond := .code yX2_copyFrom cX2_copyFrom 2 none :: ([.fieldLink RX2 9 "NamePlate$Pairs" "lefts" "[C", .methodLink RX2 26 arraycopyName, .native arraycopyName, .static arraycopyName, .initialized "java/lang/System", .fieldLink RX2 15 "NamePlate$Pairs" "rights" "[C", .fieldLink RX2 18 "NamePlate$Pairs" "adjustments" "[I", .fieldLink RX2 22 "NamePlate$Pairs" "number" "I"] ++ wsX20)
def wsX4_copyFrom_r1 : List Cond := [Cond.fieldLink RX4 12 "NamePlate$State" "names" "LNamePlate$Names;", Cond.fieldLink RX4 21 "NamePlate$State" "pairs" "LNamePlate$Pairs;", Cond.fieldLink RX4 25 "NamePlate$State" "width" "I", Cond.fieldLink RX4 29 "NamePlate$State" "height" "I", Cond.fieldLink RX4 32 "NamePlate$State" "margin" "I", Cond.fieldLink RX4 35 "NamePlate$State" "columns" "I", Cond.fieldLink RX4 38 "NamePlate$State" "engraved" "I", Cond.fieldLink RX4 41 "NamePlate$State" "engravedSize" "I", Cond.fieldLink RX4 44 "NamePlate$State" "cuts" "I", Cond.fieldLink RX4 47 "NamePlate$State" "lost" "I", Cond.methodLink RX4 50 yX1_copyFrom, Cond.instanceMethod yX1_copyFrom, Cond.selects RX1 yX1_copyFrom yX1_copyFrom, Cond.initialized RX1, Cond.code yX1_copyFrom cX1_copyFrom 2 none, Cond.fieldLink RX1 9 "NamePlate$Names" "codes" "[C", Cond.methodLink RX1 23 arraycopyName, Cond.native arraycopyName, Cond.static arraycopyName, Cond.initialized "java/lang/System", Cond.fieldLink RX1 15 "NamePlate$Names" "lengths" "[I", Cond.fieldLink RX1 19 "NamePlate$Names" "number" "I", Cond.methodLink RX4 54 yX2_copyFrom, Cond.instanceMethod yX2_copyFrom]
def wsX4_copyFrom_r2 : List Cond := [Cond.selects RX2 yX2_copyFrom yX2_copyFrom, Cond.initialized RX2, Cond.code yX2_copyFrom cX2_copyFrom 2 none, Cond.fieldLink RX2 9 "NamePlate$Pairs" "lefts" "[C", Cond.methodLink RX2 26 arraycopyName, Cond.fieldLink RX2 15 "NamePlate$Pairs" "rights" "[C", Cond.fieldLink RX2 18 "NamePlate$Pairs" "adjustments" "[I", Cond.fieldLink RX2 22 "NamePlate$Pairs" "number" "I"]
def wsX4_copyFrom : List Cond := .code yX4_copyFrom cX4_copyFrom 2 none :: ((wsX4_copyFrom_r1 ++ wsX4_copyFrom_r2) ++ wsX40 ++ wsX10 ++ wsX20)
def wsX0_record_r1 : List Cond := [Cond.fieldLink RX0 21 "NamePlate$History" "number" "I", Cond.fieldLink RX0 17 "NamePlate$History" "oldest" "I", Cond.methodLink RX0 25 yX0_slotAt, Cond.instanceMethod yX0_slotAt, Cond.selects RX0 yX0_slotAt yX0_slotAt, Cond.initialized RX0, Cond.code yX0_slotAt cX0_slotAt 3 (some (.object "NamePlate$State")), Cond.fieldLink RX0 11 "NamePlate$History" "states" "[LNamePlate$State;", Cond.methodLink RX0 29 yX4_copyFrom, Cond.instanceMethod yX4_copyFrom, Cond.selects RX4 yX4_copyFrom yX4_copyFrom, Cond.initialized RX4, Cond.code yX4_copyFrom cX4_copyFrom 2 none, Cond.fieldLink RX4 12 "NamePlate$State" "names" "LNamePlate$Names;", Cond.fieldLink RX4 21 "NamePlate$State" "pairs" "LNamePlate$Pairs;", Cond.fieldLink RX4 25 "NamePlate$State" "width" "I", Cond.fieldLink RX4 29 "NamePlate$State" "height" "I", Cond.fieldLink RX4 32 "NamePlate$State" "margin" "I", Cond.fieldLink RX4 35 "NamePlate$State" "columns" "I", Cond.fieldLink RX4 38 "NamePlate$State" "engraved" "I", Cond.fieldLink RX4 41 "NamePlate$State" "engravedSize" "I", Cond.fieldLink RX4 44 "NamePlate$State" "cuts" "I", Cond.fieldLink RX4 47 "NamePlate$State" "lost" "I", Cond.methodLink RX4 50 yX1_copyFrom]
def wsX0_record_r2 : List Cond := [Cond.instanceMethod yX1_copyFrom, Cond.selects RX1 yX1_copyFrom yX1_copyFrom, Cond.initialized RX1, Cond.code yX1_copyFrom cX1_copyFrom 2 none, Cond.fieldLink RX1 9 "NamePlate$Names" "codes" "[C", Cond.methodLink RX1 23 arraycopyName, Cond.native arraycopyName, Cond.static arraycopyName, Cond.initialized "java/lang/System", Cond.fieldLink RX1 15 "NamePlate$Names" "lengths" "[I", Cond.fieldLink RX1 19 "NamePlate$Names" "number" "I", Cond.methodLink RX4 54 yX2_copyFrom, Cond.instanceMethod yX2_copyFrom, Cond.selects RX2 yX2_copyFrom yX2_copyFrom, Cond.initialized RX2, Cond.code yX2_copyFrom cX2_copyFrom 2 none, Cond.fieldLink RX2 9 "NamePlate$Pairs" "lefts" "[C", Cond.methodLink RX2 26 arraycopyName, Cond.fieldLink RX2 15 "NamePlate$Pairs" "rights" "[C", Cond.fieldLink RX2 18 "NamePlate$Pairs" "adjustments" "[I", Cond.fieldLink RX2 22 "NamePlate$Pairs" "number" "I"]
def wsX0_record : List Cond := .code yX0_record cX0_record 3 none :: ((wsX0_record_r1 ++ wsX0_record_r2) ++ wsX00 ++ wsX40 ++ wsX10 ++ wsX20)
def wsX0_takeLatest_r1 : List Cond := [Cond.fieldLink RX0 21 "NamePlate$History" "number" "I", Cond.methodLink RX0 25 yX0_slotAt, Cond.instanceMethod yX0_slotAt, Cond.selects RX0 yX0_slotAt yX0_slotAt, Cond.initialized RX0, Cond.code yX0_slotAt cX0_slotAt 3 (some (.object "NamePlate$State")), Cond.fieldLink RX0 17 "NamePlate$History" "oldest" "I", Cond.fieldLink RX0 11 "NamePlate$History" "states" "[LNamePlate$State;", Cond.methodLink RX0 29 yX4_copyFrom, Cond.instanceMethod yX4_copyFrom, Cond.selects RX4 yX4_copyFrom yX4_copyFrom, Cond.initialized RX4, Cond.code yX4_copyFrom cX4_copyFrom 2 none, Cond.fieldLink RX4 12 "NamePlate$State" "names" "LNamePlate$Names;", Cond.fieldLink RX4 21 "NamePlate$State" "pairs" "LNamePlate$Pairs;", Cond.fieldLink RX4 25 "NamePlate$State" "width" "I", Cond.fieldLink RX4 29 "NamePlate$State" "height" "I", Cond.fieldLink RX4 32 "NamePlate$State" "margin" "I", Cond.fieldLink RX4 35 "NamePlate$State" "columns" "I", Cond.fieldLink RX4 38 "NamePlate$State" "engraved" "I", Cond.fieldLink RX4 41 "NamePlate$State" "engravedSize" "I", Cond.fieldLink RX4 44 "NamePlate$State" "cuts" "I", Cond.fieldLink RX4 47 "NamePlate$State" "lost" "I", Cond.methodLink RX4 50 yX1_copyFrom]
def wsX0_takeLatest_r2 : List Cond := [Cond.instanceMethod yX1_copyFrom, Cond.selects RX1 yX1_copyFrom yX1_copyFrom, Cond.initialized RX1, Cond.code yX1_copyFrom cX1_copyFrom 2 none, Cond.fieldLink RX1 9 "NamePlate$Names" "codes" "[C", Cond.methodLink RX1 23 arraycopyName, Cond.native arraycopyName, Cond.static arraycopyName, Cond.initialized "java/lang/System", Cond.fieldLink RX1 15 "NamePlate$Names" "lengths" "[I", Cond.fieldLink RX1 19 "NamePlate$Names" "number" "I", Cond.methodLink RX4 54 yX2_copyFrom, Cond.instanceMethod yX2_copyFrom, Cond.selects RX2 yX2_copyFrom yX2_copyFrom, Cond.initialized RX2, Cond.code yX2_copyFrom cX2_copyFrom 2 none, Cond.fieldLink RX2 9 "NamePlate$Pairs" "lefts" "[C", Cond.methodLink RX2 26 arraycopyName, Cond.fieldLink RX2 15 "NamePlate$Pairs" "rights" "[C", Cond.fieldLink RX2 18 "NamePlate$Pairs" "adjustments" "[I", Cond.fieldLink RX2 22 "NamePlate$Pairs" "number" "I"]
def wsX0_takeLatest : List Cond := .code yX0_takeLatest cX0_takeLatest 3 none :: ((wsX0_takeLatest_r1 ++ wsX0_takeLatest_r2) ++ wsX00 ++ wsX40 ++ wsX10 ++ wsX20)
def wsX1_isTaken : List Cond := .code yX1_isTaken cX1_isTaken 2 (some .boolean) :: ([.fieldLink RX1 19 "NamePlate$Names" "number" "I"] ++ wsX10)
def wsX1_lengthOf : List Cond := .code yX1_lengthOf cX1_lengthOf 2 (some .int) :: ([.fieldLink RX1 15 "NamePlate$Names" "lengths" "[I"] ++ wsX10)
def wsX1_isIn : List Cond := .code yX1_isIn cX1_isIn 3 (some .boolean) :: ([.methodLink RX1 29 yX1_isTaken, .instanceMethod yX1_isTaken, .selects RX1 yX1_isTaken yX1_isTaken, .initialized RX1, .code yX1_isTaken cX1_isTaken 2 (some .boolean), .fieldLink RX1 19 "NamePlate$Names" "number" "I", .methodLink RX1 33 yX1_lengthOf, .instanceMethod yX1_lengthOf, .selects RX1 yX1_lengthOf yX1_lengthOf, .code yX1_lengthOf cX1_lengthOf 2 (some .int), .fieldLink RX1 15 "NamePlate$Names" "lengths" "[I"] ++ wsX10)
def wsX1_isLast : List Cond := .code yX1_isLast cX1_isLast 3 (some .boolean) :: ([.methodLink RX1 33 yX1_lengthOf, .instanceMethod yX1_lengthOf, .selects RX1 yX1_lengthOf yX1_lengthOf, .initialized RX1, .code yX1_lengthOf cX1_lengthOf 2 (some .int), .fieldLink RX1 15 "NamePlate$Names" "lengths" "[I"] ++ wsX10)
def wsX1_codeAt : List Cond := .code yX1_codeAt cX1_codeAt 4 (some .char) :: ([.fieldLink RX1 9 "NamePlate$Names" "codes" "[C"] ++ wsX10)
def wsX1_begin : List Cond := .code yX1_begin cX1_begin 1 none :: ([.fieldLink RX1 19 "NamePlate$Names" "number" "I", .fieldLink RX1 15 "NamePlate$Names" "lengths" "[I"] ++ wsX10)
def wsX1_append : List Cond := .code yX1_append cX1_append 3 none :: ([.fieldLink RX1 19 "NamePlate$Names" "number" "I", .fieldLink RX1 15 "NamePlate$Names" "lengths" "[I", .fieldLink RX1 9 "NamePlate$Names" "codes" "[C", .methodLink RX1 29 yX1_isTaken, .instanceMethod yX1_isTaken, .selects RX1 yX1_isTaken yX1_isTaken, .initialized RX1, .code yX1_isTaken cX1_isTaken 2 (some .boolean)] ++ wsX10)
def wsX1_exchange : List Cond := .code yX1_exchange cX1_exchange 5 none :: ([.fieldLink RX1 9 "NamePlate$Names" "codes" "[C", .fieldLink RX1 15 "NamePlate$Names" "lengths" "[I", .methodLink RX1 29 yX1_isTaken, .instanceMethod yX1_isTaken, .selects RX1 yX1_isTaken yX1_isTaken, .initialized RX1, .code yX1_isTaken cX1_isTaken 2 (some .boolean), .fieldLink RX1 19 "NamePlate$Names" "number" "I"] ++ wsX10)
def wsX1_takeOut : List Cond := .code yX1_takeOut cX1_takeOut 3 none :: ([.fieldLink RX1 19 "NamePlate$Names" "number" "I", .methodLink RX1 29 yX1_isTaken, .instanceMethod yX1_isTaken, .selects RX1 yX1_isTaken yX1_isTaken, .initialized RX1, .code yX1_isTaken cX1_isTaken 2 (some .boolean), .methodLink RX1 37 yX1_exchange, .instanceMethod yX1_exchange, .selects RX1 yX1_exchange yX1_exchange, .code yX1_exchange cX1_exchange 5 none, .fieldLink RX1 9 "NamePlate$Names" "codes" "[C", .fieldLink RX1 15 "NamePlate$Names" "lengths" "[I"] ++ wsX10)
def wsX2_isFull : List Cond := .code yX2_isFull cX2_isFull 1 (some .boolean) :: ([.fieldLink RX2 22 "NamePlate$Pairs" "number" "I"] ++ wsX20)
def wsX2_isPlace : List Cond := .code yX2_isPlace cX2_isPlace 2 (some .boolean) :: ([.fieldLink RX2 22 "NamePlate$Pairs" "number" "I"] ++ wsX20)
def wsX2_leftAt : List Cond := .code yX2_leftAt cX2_leftAt 2 (some .char) :: ([.fieldLink RX2 9 "NamePlate$Pairs" "lefts" "[C", .methodLink RX2 32 yX2_isPlace, .instanceMethod yX2_isPlace, .selects RX2 yX2_isPlace yX2_isPlace, .initialized RX2, .code yX2_isPlace cX2_isPlace 2 (some .boolean), .fieldLink RX2 22 "NamePlate$Pairs" "number" "I"] ++ wsX20)
def wsX2_rightAt : List Cond := .code yX2_rightAt cX2_rightAt 2 (some .char) :: ([.fieldLink RX2 15 "NamePlate$Pairs" "rights" "[C", .methodLink RX2 32 yX2_isPlace, .instanceMethod yX2_isPlace, .selects RX2 yX2_isPlace yX2_isPlace, .initialized RX2, .code yX2_isPlace cX2_isPlace 2 (some .boolean), .fieldLink RX2 22 "NamePlate$Pairs" "number" "I"] ++ wsX20)
def wsX2_adjustmentAt : List Cond := .code yX2_adjustmentAt cX2_adjustmentAt 2 (some .int) :: ([.fieldLink RX2 22 "NamePlate$Pairs" "number" "I", .fieldLink RX2 18 "NamePlate$Pairs" "adjustments" "[I"] ++ wsX20)
def wsX2_placeOf : List Cond := .code yX2_placeOf cX2_placeOf 4 (some .int) :: ([.fieldLink RX2 22 "NamePlate$Pairs" "number" "I", .fieldLink RX2 9 "NamePlate$Pairs" "lefts" "[C", .fieldLink RX2 15 "NamePlate$Pairs" "rights" "[C"] ++ wsX20)
def wsX2_takeOut : List Cond := .code yX2_takeOut cX2_takeOut 3 none :: ([.fieldLink RX2 22 "NamePlate$Pairs" "number" "I", .fieldLink RX2 9 "NamePlate$Pairs" "lefts" "[C", .fieldLink RX2 15 "NamePlate$Pairs" "rights" "[C", .fieldLink RX2 18 "NamePlate$Pairs" "adjustments" "[I"] ++ wsX20)
def wsX2_append : List Cond := .code yX2_append cX2_append 4 none :: ([.fieldLink RX2 22 "NamePlate$Pairs" "number" "I", .fieldLink RX2 9 "NamePlate$Pairs" "lefts" "[C", .fieldLink RX2 15 "NamePlate$Pairs" "rights" "[C", .fieldLink RX2 18 "NamePlate$Pairs" "adjustments" "[I"] ++ wsX20)
def wsX2_put : List Cond := .code yX2_put cX2_put 5 none :: ([.fieldLink RX2 18 "NamePlate$Pairs" "adjustments" "[I", .methodLink RX2 36 yX2_placeOf, .instanceMethod yX2_placeOf, .selects RX2 yX2_placeOf yX2_placeOf, .initialized RX2, .code yX2_placeOf cX2_placeOf 4 (some .int), .fieldLink RX2 22 "NamePlate$Pairs" "number" "I", .fieldLink RX2 9 "NamePlate$Pairs" "lefts" "[C", .fieldLink RX2 15 "NamePlate$Pairs" "rights" "[C", .methodLink RX2 32 yX2_isPlace, .instanceMethod yX2_isPlace, .selects RX2 yX2_isPlace yX2_isPlace, .code yX2_isPlace cX2_isPlace 2 (some .boolean), .methodLink RX2 40 yX2_takeOut, .instanceMethod yX2_takeOut, .selects RX2 yX2_takeOut yX2_takeOut, .code yX2_takeOut cX2_takeOut 3 none, .methodLink RX2 44 yX2_append, .instanceMethod yX2_append, .selects RX2 yX2_append yX2_append, .code yX2_append cX2_append 4 none] ++ wsX20)
def wsX3_isLetter : List Cond := .code yX3_isLetter cX3_isLetter 1 (some .boolean) :: ([])
def wsX3_isMark : List Cond := .code yX3_isMark cX3_isMark 1 (some .boolean) :: ([])
def wsX3_isKnown : List Cond := .code yX3_isKnown cX3_isKnown 1 (some .boolean) :: ([.methodLink RX3 7 yX3_isLetter, .static yX3_isLetter, .initialized RX3, .code yX3_isLetter cX3_isLetter 1 (some .boolean), .methodLink RX3 13 yX3_isMark, .static yX3_isMark, .code yX3_isMark cX3_isMark 1 (some .boolean)])
def wsX3_width : List Cond := .code yX3_width cX3_width 1 (some .int) :: ([])
def wsX3_openness : List Cond := .code yX3_openness cX3_openness 1 (some .int) :: ([])
def wsX3_ink : List Cond := .code yX3_ink cX3_ink 1 (some .int) :: ([])
def wsJ6_bitCount_0f7a4 : List Cond := .code yJ6_bitCount_0f7a4 cJ6_bitCount_0f7a4 1 (some .int) :: ([.constant RJ6 265 (1431655765), .constant RJ6 266 (858993459), .constant RJ6 267 (252645135)])
def wsX4_engravedNames : List Cond := .code yX4_engravedNames cX4_engravedNames 1 (some .int) :: ([.fieldLink RX4 38 "NamePlate$State" "engraved" "I", .methodLink RX4 61 yJ6_bitCount_0f7a4, .static yJ6_bitCount_0f7a4, .initialized RJ6, .code yJ6_bitCount_0f7a4 cJ6_bitCount_0f7a4 1 (some .int), .constant RJ6 265 (1431655765), .constant RJ6 266 (858993459), .constant RJ6 267 (252645135)] ++ wsX40)
def wsX4_cutAnew : List Cond := .code yX4_cutAnew cX4_cutAnew 4 (some .int) :: ([.fieldLink RX4 25 "NamePlate$State" "width" "I", .fieldLink RX4 29 "NamePlate$State" "height" "I", .fieldLink RX4 38 "NamePlate$State" "engraved" "I", .fieldLink RX4 44 "NamePlate$State" "cuts" "I", .fieldLink RX4 47 "NamePlate$State" "lost" "I", .methodLink RX4 57 yX4_engravedNames, .instanceMethod yX4_engravedNames, .selects RX4 yX4_engravedNames yX4_engravedNames, .initialized RX4, .code yX4_engravedNames cX4_engravedNames 1 (some .int), .methodLink RX4 61 yJ6_bitCount_0f7a4, .static yJ6_bitCount_0f7a4, .initialized RJ6, .code yJ6_bitCount_0f7a4 cJ6_bitCount_0f7a4 1 (some .int), .constant RJ6 265 (1431655765), .constant RJ6 266 (858993459), .constant RJ6 267 (252645135)] ++ wsX40)
def wsX4_hasEngraved : List Cond := .code yX4_hasEngraved cX4_hasEngraved 1 (some .boolean) :: ([.fieldLink RX4 38 "NamePlate$State" "engraved" "I"] ++ wsX40)
def wsX4_isEngraved : List Cond := .code yX4_isEngraved cX4_isEngraved 2 (some .boolean) :: ([.fieldLink RX4 38 "NamePlate$State" "engraved" "I"] ++ wsX40)
def wsX4_isEngravedFrom : List Cond := .code yX4_isEngravedFrom cX4_isEngravedFrom 2 (some .boolean) :: ([.fieldLink RX4 38 "NamePlate$State" "engraved" "I"] ++ wsX40)
def wsX4_spaceBehind_r1 : List Cond := [Cond.fieldLink RX4 12 "NamePlate$State" "names" "LNamePlate$Names;", Cond.fieldLink RX4 21 "NamePlate$State" "pairs" "LNamePlate$Pairs;", Cond.methodLink RX4 102 Lib.Math.max.name, Cond.static Lib.Math.max.name, Cond.initialized "java/lang/Math", Cond.code Lib.Math.max.name Lib.Math.max.code 2 (some .int), Cond.methodLink RX4 82 yX1_lengthOf, Cond.instanceMethod yX1_lengthOf, Cond.selects RX1 yX1_lengthOf yX1_lengthOf, Cond.initialized RX1, Cond.code yX1_lengthOf cX1_lengthOf 2 (some .int), Cond.fieldLink RX1 15 "NamePlate$Names" "lengths" "[I", Cond.methodLink RX4 85 yX1_codeAt, Cond.instanceMethod yX1_codeAt, Cond.selects RX1 yX1_codeAt yX1_codeAt, Cond.code yX1_codeAt cX1_codeAt 4 (some .char), Cond.fieldLink RX1 9 "NamePlate$Names" "codes" "[C", Cond.methodLink RX4 89 yX2_placeOf, Cond.instanceMethod yX2_placeOf, Cond.selects RX2 yX2_placeOf yX2_placeOf, Cond.initialized RX2, Cond.code yX2_placeOf cX2_placeOf 4 (some .int), Cond.fieldLink RX2 22 "NamePlate$Pairs" "number" "I", Cond.fieldLink RX2 9 "NamePlate$Pairs" "lefts" "[C"]
def wsX4_spaceBehind_r2 : List Cond := [Cond.fieldLink RX2 15 "NamePlate$Pairs" "rights" "[C", Cond.methodLink RX4 93 yX2_adjustmentAt, Cond.instanceMethod yX2_adjustmentAt, Cond.selects RX2 yX2_adjustmentAt yX2_adjustmentAt, Cond.code yX2_adjustmentAt cX2_adjustmentAt 2 (some .int), Cond.fieldLink RX2 18 "NamePlate$Pairs" "adjustments" "[I", Cond.methodLink RX4 96 yX3_openness, Cond.static yX3_openness, Cond.initialized RX3, Cond.code yX3_openness cX3_openness 1 (some .int)]
def wsX4_spaceBehind : List Cond := .code yX4_spaceBehind cX4_spaceBehind 6 (some .int) :: ((wsX4_spaceBehind_r1 ++ wsX4_spaceBehind_r2) ++ wsX40 ++ wsX10 ++ wsX20)
def wsX4_unitsBefore_r1 : List Cond := [Cond.fieldLink RX4 12 "NamePlate$State" "names" "LNamePlate$Names;", Cond.methodLink RX4 85 yX1_codeAt, Cond.instanceMethod yX1_codeAt, Cond.selects RX1 yX1_codeAt yX1_codeAt, Cond.initialized RX1, Cond.code yX1_codeAt cX1_codeAt 4 (some .char), Cond.fieldLink RX1 9 "NamePlate$Names" "codes" "[C", Cond.methodLink RX4 111 yX3_width, Cond.static yX3_width, Cond.initialized RX3, Cond.code yX3_width cX3_width 1 (some .int), Cond.methodLink RX4 108 yX4_spaceBehind, Cond.instanceMethod yX4_spaceBehind, Cond.selects RX4 yX4_spaceBehind yX4_spaceBehind, Cond.initialized RX4, Cond.code yX4_spaceBehind cX4_spaceBehind 6 (some .int), Cond.fieldLink RX4 21 "NamePlate$State" "pairs" "LNamePlate$Pairs;", Cond.methodLink RX4 102 Lib.Math.max.name, Cond.static Lib.Math.max.name, Cond.initialized "java/lang/Math", Cond.code Lib.Math.max.name Lib.Math.max.code 2 (some .int), Cond.methodLink RX4 82 yX1_lengthOf, Cond.instanceMethod yX1_lengthOf, Cond.selects RX1 yX1_lengthOf yX1_lengthOf]
def wsX4_unitsBefore_r2 : List Cond := [Cond.code yX1_lengthOf cX1_lengthOf 2 (some .int), Cond.fieldLink RX1 15 "NamePlate$Names" "lengths" "[I", Cond.methodLink RX4 89 yX2_placeOf, Cond.instanceMethod yX2_placeOf, Cond.selects RX2 yX2_placeOf yX2_placeOf, Cond.initialized RX2, Cond.code yX2_placeOf cX2_placeOf 4 (some .int), Cond.fieldLink RX2 22 "NamePlate$Pairs" "number" "I", Cond.fieldLink RX2 9 "NamePlate$Pairs" "lefts" "[C", Cond.fieldLink RX2 15 "NamePlate$Pairs" "rights" "[C", Cond.methodLink RX4 93 yX2_adjustmentAt, Cond.instanceMethod yX2_adjustmentAt, Cond.selects RX2 yX2_adjustmentAt yX2_adjustmentAt, Cond.code yX2_adjustmentAt cX2_adjustmentAt 2 (some .int), Cond.fieldLink RX2 18 "NamePlate$Pairs" "adjustments" "[I", Cond.methodLink RX4 96 yX3_openness, Cond.static yX3_openness, Cond.code yX3_openness cX3_openness 1 (some .int)]
def wsX4_unitsBefore : List Cond := .code yX4_unitsBefore cX4_unitsBefore 5 (some .int) :: ((wsX4_unitsBefore_r1 ++ wsX4_unitsBefore_r2) ++ wsX40 ++ wsX10 ++ wsX20)
def wsX4_unitsOf_r1 : List Cond := [Cond.fieldLink RX4 12 "NamePlate$State" "names" "LNamePlate$Names;", Cond.methodLink RX4 82 yX1_lengthOf, Cond.instanceMethod yX1_lengthOf, Cond.selects RX1 yX1_lengthOf yX1_lengthOf, Cond.initialized RX1, Cond.code yX1_lengthOf cX1_lengthOf 2 (some .int), Cond.fieldLink RX1 15 "NamePlate$Names" "lengths" "[I", Cond.methodLink RX4 113 yX4_unitsBefore, Cond.instanceMethod yX4_unitsBefore, Cond.selects RX4 yX4_unitsBefore yX4_unitsBefore, Cond.initialized RX4, Cond.code yX4_unitsBefore cX4_unitsBefore 5 (some .int), Cond.methodLink RX4 85 yX1_codeAt, Cond.instanceMethod yX1_codeAt, Cond.selects RX1 yX1_codeAt yX1_codeAt, Cond.code yX1_codeAt cX1_codeAt 4 (some .char), Cond.fieldLink RX1 9 "NamePlate$Names" "codes" "[C", Cond.methodLink RX4 111 yX3_width, Cond.static yX3_width, Cond.initialized RX3, Cond.code yX3_width cX3_width 1 (some .int), Cond.methodLink RX4 108 yX4_spaceBehind, Cond.instanceMethod yX4_spaceBehind, Cond.selects RX4 yX4_spaceBehind yX4_spaceBehind]
def wsX4_unitsOf_r2 : List Cond := [Cond.code yX4_spaceBehind cX4_spaceBehind 6 (some .int), Cond.fieldLink RX4 21 "NamePlate$State" "pairs" "LNamePlate$Pairs;", Cond.methodLink RX4 102 Lib.Math.max.name, Cond.static Lib.Math.max.name, Cond.initialized "java/lang/Math", Cond.code Lib.Math.max.name Lib.Math.max.code 2 (some .int), Cond.methodLink RX4 89 yX2_placeOf, Cond.instanceMethod yX2_placeOf, Cond.selects RX2 yX2_placeOf yX2_placeOf, Cond.initialized RX2, Cond.code yX2_placeOf cX2_placeOf 4 (some .int), Cond.fieldLink RX2 22 "NamePlate$Pairs" "number" "I", Cond.fieldLink RX2 9 "NamePlate$Pairs" "lefts" "[C", Cond.fieldLink RX2 15 "NamePlate$Pairs" "rights" "[C", Cond.methodLink RX4 93 yX2_adjustmentAt, Cond.instanceMethod yX2_adjustmentAt, Cond.selects RX2 yX2_adjustmentAt yX2_adjustmentAt, Cond.code yX2_adjustmentAt cX2_adjustmentAt 2 (some .int), Cond.fieldLink RX2 18 "NamePlate$Pairs" "adjustments" "[I", Cond.methodLink RX4 96 yX3_openness, Cond.static yX3_openness, Cond.code yX3_openness cX3_openness 1 (some .int)]
def wsX4_unitsOf : List Cond := .code yX4_unitsOf cX4_unitsOf 2 (some .int) :: ((wsX4_unitsOf_r1 ++ wsX4_unitsOf_r2) ++ wsX40 ++ wsX10 ++ wsX20)
def wsJ9_floorDiv_7cf53 : List Cond := .code yJ9_floorDiv_7cf53 cJ9_floorDiv_7cf53 3 (some .int) :: ([])
def wsX4_quotient : List Cond := .code yX4_quotient cX4_quotient 2 (some .int) :: ([.methodLink RX4 160 yJ9_floorDiv_7cf53, .static yJ9_floorDiv_7cf53, .initialized RJ9, .code yJ9_floorDiv_7cf53 cJ9_floorDiv_7cf53 3 (some .int)])
def wsX4_columnWidth : List Cond := .code yX4_columnWidth cX4_columnWidth 2 (some .int) :: ([.fieldLink RX4 32 "NamePlate$State" "margin" "I", .fieldLink RX4 35 "NamePlate$State" "columns" "I", .methodLink RX4 122 yX4_quotient, .static yX4_quotient, .initialized RX4, .code yX4_quotient cX4_quotient 2 (some .int), .methodLink RX4 160 yJ9_floorDiv_7cf53, .static yJ9_floorDiv_7cf53, .initialized RJ9, .code yJ9_floorDiv_7cf53 cJ9_floorDiv_7cf53 3 (some .int)] ++ wsX40)
def wsX4_rowOf : List Cond := .code yX4_rowOf cX4_rowOf 2 (some .int) :: ([.fieldLink RX4 35 "NamePlate$State" "columns" "I", .methodLink RX4 122 yX4_quotient, .static yX4_quotient, .initialized RX4, .code yX4_quotient cX4_quotient 2 (some .int), .methodLink RX4 160 yJ9_floorDiv_7cf53, .static yJ9_floorDiv_7cf53, .initialized RJ9, .code yJ9_floorDiv_7cf53 cJ9_floorDiv_7cf53 3 (some .int)] ++ wsX40)
def wsX4_fits_r1 : List Cond := [Cond.fieldLink RX4 25 "NamePlate$State" "width" "I", Cond.fieldLink RX4 29 "NamePlate$State" "height" "I", Cond.fieldLink RX4 32 "NamePlate$State" "margin" "I", Cond.methodLink RX4 119 yX4_unitsOf, Cond.instanceMethod yX4_unitsOf, Cond.selects RX4 yX4_unitsOf yX4_unitsOf, Cond.initialized RX4, Cond.code yX4_unitsOf cX4_unitsOf 2 (some .int), Cond.fieldLink RX4 12 "NamePlate$State" "names" "LNamePlate$Names;", Cond.methodLink RX4 82 yX1_lengthOf, Cond.instanceMethod yX1_lengthOf, Cond.selects RX1 yX1_lengthOf yX1_lengthOf, Cond.initialized RX1, Cond.code yX1_lengthOf cX1_lengthOf 2 (some .int), Cond.fieldLink RX1 15 "NamePlate$Names" "lengths" "[I", Cond.methodLink RX4 113 yX4_unitsBefore, Cond.instanceMethod yX4_unitsBefore, Cond.selects RX4 yX4_unitsBefore yX4_unitsBefore, Cond.code yX4_unitsBefore cX4_unitsBefore 5 (some .int), Cond.methodLink RX4 85 yX1_codeAt, Cond.instanceMethod yX1_codeAt, Cond.selects RX1 yX1_codeAt yX1_codeAt, Cond.code yX1_codeAt cX1_codeAt 4 (some .char), Cond.fieldLink RX1 9 "NamePlate$Names" "codes" "[C"]
def wsX4_fits_r2 : List Cond := [Cond.methodLink RX4 111 yX3_width, Cond.static yX3_width, Cond.initialized RX3, Cond.code yX3_width cX3_width 1 (some .int), Cond.methodLink RX4 108 yX4_spaceBehind, Cond.instanceMethod yX4_spaceBehind, Cond.selects RX4 yX4_spaceBehind yX4_spaceBehind, Cond.code yX4_spaceBehind cX4_spaceBehind 6 (some .int), Cond.fieldLink RX4 21 "NamePlate$State" "pairs" "LNamePlate$Pairs;", Cond.methodLink RX4 102 Lib.Math.max.name, Cond.static Lib.Math.max.name, Cond.initialized "java/lang/Math", Cond.code Lib.Math.max.name Lib.Math.max.code 2 (some .int), Cond.methodLink RX4 89 yX2_placeOf, Cond.instanceMethod yX2_placeOf, Cond.selects RX2 yX2_placeOf yX2_placeOf, Cond.initialized RX2, Cond.code yX2_placeOf cX2_placeOf 4 (some .int), Cond.fieldLink RX2 22 "NamePlate$Pairs" "number" "I", Cond.fieldLink RX2 9 "NamePlate$Pairs" "lefts" "[C", Cond.fieldLink RX2 15 "NamePlate$Pairs" "rights" "[C", Cond.methodLink RX4 93 yX2_adjustmentAt, Cond.instanceMethod yX2_adjustmentAt, Cond.selects RX2 yX2_adjustmentAt yX2_adjustmentAt]
def wsX4_fits_r3 : List Cond := [Cond.code yX2_adjustmentAt cX2_adjustmentAt 2 (some .int), Cond.fieldLink RX2 18 "NamePlate$Pairs" "adjustments" "[I", Cond.methodLink RX4 96 yX3_openness, Cond.static yX3_openness, Cond.code yX3_openness cX3_openness 1 (some .int), Cond.methodLink RX4 131 yX4_columnWidth, Cond.instanceMethod yX4_columnWidth, Cond.selects RX4 yX4_columnWidth yX4_columnWidth, Cond.code yX4_columnWidth cX4_columnWidth 2 (some .int), Cond.fieldLink RX4 35 "NamePlate$State" "columns" "I", Cond.methodLink RX4 122 yX4_quotient, Cond.static yX4_quotient, Cond.code yX4_quotient cX4_quotient 2 (some .int), Cond.methodLink RX4 160 yJ9_floorDiv_7cf53, Cond.static yJ9_floorDiv_7cf53, Cond.initialized RJ9, Cond.code yJ9_floorDiv_7cf53 cJ9_floorDiv_7cf53 3 (some .int), Cond.methodLink RX4 125 yX4_rowOf, Cond.instanceMethod yX4_rowOf, Cond.selects RX4 yX4_rowOf yX4_rowOf, Cond.code yX4_rowOf cX4_rowOf 2 (some .int)]
def wsX4_fits : List Cond := .code yX4_fits cX4_fits 3 (some .boolean) :: ((wsX4_fits_r1 ++ (wsX4_fits_r2 ++ wsX4_fits_r3)) ++ wsX40 ++ wsX10 ++ wsX20)
def wsX4_engravableSeats_r1 : List Cond := [Cond.fieldLink RX4 12 "NamePlate$State" "names" "LNamePlate$Names;", Cond.methodLink RX4 70 yX4_isEngraved, Cond.instanceMethod yX4_isEngraved, Cond.selects RX4 yX4_isEngraved yX4_isEngraved, Cond.initialized RX4, Cond.code yX4_isEngraved cX4_isEngraved 2 (some .boolean), Cond.fieldLink RX4 38 "NamePlate$State" "engraved" "I", Cond.methodLink RX4 74 yX4_fits, Cond.instanceMethod yX4_fits, Cond.selects RX4 yX4_fits yX4_fits, Cond.code yX4_fits cX4_fits 3 (some .boolean), Cond.fieldLink RX4 25 "NamePlate$State" "width" "I", Cond.fieldLink RX4 29 "NamePlate$State" "height" "I", Cond.fieldLink RX4 32 "NamePlate$State" "margin" "I", Cond.methodLink RX4 119 yX4_unitsOf, Cond.instanceMethod yX4_unitsOf, Cond.selects RX4 yX4_unitsOf yX4_unitsOf, Cond.code yX4_unitsOf cX4_unitsOf 2 (some .int), Cond.methodLink RX4 82 yX1_lengthOf, Cond.instanceMethod yX1_lengthOf, Cond.selects RX1 yX1_lengthOf yX1_lengthOf, Cond.initialized RX1, Cond.code yX1_lengthOf cX1_lengthOf 2 (some .int), Cond.fieldLink RX1 15 "NamePlate$Names" "lengths" "[I"]
def wsX4_engravableSeats_r2 : List Cond := [Cond.methodLink RX4 113 yX4_unitsBefore, Cond.instanceMethod yX4_unitsBefore, Cond.selects RX4 yX4_unitsBefore yX4_unitsBefore, Cond.code yX4_unitsBefore cX4_unitsBefore 5 (some .int), Cond.methodLink RX4 85 yX1_codeAt, Cond.instanceMethod yX1_codeAt, Cond.selects RX1 yX1_codeAt yX1_codeAt, Cond.code yX1_codeAt cX1_codeAt 4 (some .char), Cond.fieldLink RX1 9 "NamePlate$Names" "codes" "[C", Cond.methodLink RX4 111 yX3_width, Cond.static yX3_width, Cond.initialized RX3, Cond.code yX3_width cX3_width 1 (some .int), Cond.methodLink RX4 108 yX4_spaceBehind, Cond.instanceMethod yX4_spaceBehind, Cond.selects RX4 yX4_spaceBehind yX4_spaceBehind, Cond.code yX4_spaceBehind cX4_spaceBehind 6 (some .int), Cond.fieldLink RX4 21 "NamePlate$State" "pairs" "LNamePlate$Pairs;", Cond.methodLink RX4 102 Lib.Math.max.name, Cond.static Lib.Math.max.name, Cond.initialized "java/lang/Math", Cond.code Lib.Math.max.name Lib.Math.max.code 2 (some .int), Cond.methodLink RX4 89 yX2_placeOf, Cond.instanceMethod yX2_placeOf]
def wsX4_engravableSeats_r3 : List Cond := [Cond.selects RX2 yX2_placeOf yX2_placeOf, Cond.initialized RX2, Cond.code yX2_placeOf cX2_placeOf 4 (some .int), Cond.fieldLink RX2 22 "NamePlate$Pairs" "number" "I", Cond.fieldLink RX2 9 "NamePlate$Pairs" "lefts" "[C", Cond.fieldLink RX2 15 "NamePlate$Pairs" "rights" "[C", Cond.methodLink RX4 93 yX2_adjustmentAt, Cond.instanceMethod yX2_adjustmentAt, Cond.selects RX2 yX2_adjustmentAt yX2_adjustmentAt, Cond.code yX2_adjustmentAt cX2_adjustmentAt 2 (some .int), Cond.fieldLink RX2 18 "NamePlate$Pairs" "adjustments" "[I", Cond.methodLink RX4 96 yX3_openness, Cond.static yX3_openness, Cond.code yX3_openness cX3_openness 1 (some .int), Cond.methodLink RX4 131 yX4_columnWidth, Cond.instanceMethod yX4_columnWidth, Cond.selects RX4 yX4_columnWidth yX4_columnWidth, Cond.code yX4_columnWidth cX4_columnWidth 2 (some .int), Cond.fieldLink RX4 35 "NamePlate$State" "columns" "I", Cond.methodLink RX4 122 yX4_quotient, Cond.static yX4_quotient, Cond.code yX4_quotient cX4_quotient 2 (some .int), Cond.methodLink RX4 160 yJ9_floorDiv_7cf53, Cond.static yJ9_floorDiv_7cf53]
def wsX4_engravableSeats_r4 : List Cond := [Cond.initialized RJ9, Cond.code yJ9_floorDiv_7cf53 cJ9_floorDiv_7cf53 3 (some .int), Cond.methodLink RX4 125 yX4_rowOf, Cond.instanceMethod yX4_rowOf, Cond.selects RX4 yX4_rowOf yX4_rowOf, Cond.code yX4_rowOf cX4_rowOf 2 (some .int)]
def wsX4_engravableSeats : List Cond := .code yX4_engravableSeats cX4_engravableSeats 4 (some .int) :: ((wsX4_engravableSeats_r1 ++ (wsX4_engravableSeats_r2 ++ (wsX4_engravableSeats_r3 ++ wsX4_engravableSeats_r4))) ++ wsX40 ++ wsX10 ++ wsX20)
def wsX4_markEngraved : List Cond := .code yX4_markEngraved cX4_markEngraved 3 none :: ([.fieldLink RX4 38 "NamePlate$State" "engraved" "I", .fieldLink RX4 41 "NamePlate$State" "engravedSize" "I"] ++ wsX40)
def wsX4_hasPair : List Cond := .code yX4_hasPair cX4_hasPair 5 (some .boolean) :: ([.fieldLink RX4 12 "NamePlate$State" "names" "LNamePlate$Names;", .methodLink RX4 82 yX1_lengthOf, .instanceMethod yX1_lengthOf, .selects RX1 yX1_lengthOf yX1_lengthOf, .initialized RX1, .code yX1_lengthOf cX1_lengthOf 2 (some .int), .fieldLink RX1 15 "NamePlate$Names" "lengths" "[I", .methodLink RX4 85 yX1_codeAt, .instanceMethod yX1_codeAt, .selects RX1 yX1_codeAt yX1_codeAt, .code yX1_codeAt cX1_codeAt 4 (some .char), .fieldLink RX1 9 "NamePlate$Names" "codes" "[C"] ++ wsX40 ++ wsX10)
def wsX4_isEngravedPair : List Cond := .code yX4_isEngravedPair cX4_isEngravedPair 4 (some .boolean) :: ([.fieldLink RX4 12 "NamePlate$State" "names" "LNamePlate$Names;", .methodLink RX4 70 yX4_isEngraved, .instanceMethod yX4_isEngraved, .selects RX4 yX4_isEngraved yX4_isEngraved, .initialized RX4, .code yX4_isEngraved cX4_isEngraved 2 (some .boolean), .fieldLink RX4 38 "NamePlate$State" "engraved" "I", .methodLink RX4 78 yX4_hasPair, .instanceMethod yX4_hasPair, .selects RX4 yX4_hasPair yX4_hasPair, .code yX4_hasPair cX4_hasPair 5 (some .boolean), .methodLink RX4 82 yX1_lengthOf, .instanceMethod yX1_lengthOf, .selects RX1 yX1_lengthOf yX1_lengthOf, .initialized RX1, .code yX1_lengthOf cX1_lengthOf 2 (some .int), .fieldLink RX1 15 "NamePlate$Names" "lengths" "[I", .methodLink RX4 85 yX1_codeAt, .instanceMethod yX1_codeAt, .selects RX1 yX1_codeAt yX1_codeAt, .code yX1_codeAt cX1_codeAt 4 (some .char), .fieldLink RX1 9 "NamePlate$Names" "codes" "[C"] ++ wsX40 ++ wsX10)
def wsX4_adjustmentOf : List Cond := .code yX4_adjustmentOf cX4_adjustmentOf 3 (some .int) :: ([.fieldLink RX4 21 "NamePlate$State" "pairs" "LNamePlate$Pairs;", .methodLink RX4 89 yX2_placeOf, .instanceMethod yX2_placeOf, .selects RX2 yX2_placeOf yX2_placeOf, .initialized RX2, .code yX2_placeOf cX2_placeOf 4 (some .int), .fieldLink RX2 22 "NamePlate$Pairs" "number" "I", .fieldLink RX2 9 "NamePlate$Pairs" "lefts" "[C", .fieldLink RX2 15 "NamePlate$Pairs" "rights" "[C", .methodLink RX4 93 yX2_adjustmentAt, .instanceMethod yX2_adjustmentAt, .selects RX2 yX2_adjustmentAt yX2_adjustmentAt, .code yX2_adjustmentAt cX2_adjustmentAt 2 (some .int), .fieldLink RX2 18 "NamePlate$Pairs" "adjustments" "[I"] ++ wsX40 ++ wsX20)
def wsX4_measuredSpace_r1 : List Cond := [Cond.fieldLink RX4 12 "NamePlate$State" "names" "LNamePlate$Names;", Cond.methodLink RX4 108 yX4_spaceBehind, Cond.instanceMethod yX4_spaceBehind, Cond.selects RX4 yX4_spaceBehind yX4_spaceBehind, Cond.initialized RX4, Cond.code yX4_spaceBehind cX4_spaceBehind 6 (some .int), Cond.fieldLink RX4 21 "NamePlate$State" "pairs" "LNamePlate$Pairs;", Cond.methodLink RX4 102 Lib.Math.max.name, Cond.static Lib.Math.max.name, Cond.initialized "java/lang/Math", Cond.code Lib.Math.max.name Lib.Math.max.code 2 (some .int), Cond.methodLink RX4 82 yX1_lengthOf, Cond.instanceMethod yX1_lengthOf, Cond.selects RX1 yX1_lengthOf yX1_lengthOf, Cond.initialized RX1, Cond.code yX1_lengthOf cX1_lengthOf 2 (some .int), Cond.fieldLink RX1 15 "NamePlate$Names" "lengths" "[I", Cond.methodLink RX4 85 yX1_codeAt, Cond.instanceMethod yX1_codeAt, Cond.selects RX1 yX1_codeAt yX1_codeAt, Cond.code yX1_codeAt cX1_codeAt 4 (some .char), Cond.fieldLink RX1 9 "NamePlate$Names" "codes" "[C", Cond.methodLink RX4 89 yX2_placeOf, Cond.instanceMethod yX2_placeOf]
def wsX4_measuredSpace_r2 : List Cond := [Cond.selects RX2 yX2_placeOf yX2_placeOf, Cond.initialized RX2, Cond.code yX2_placeOf cX2_placeOf 4 (some .int), Cond.fieldLink RX2 22 "NamePlate$Pairs" "number" "I", Cond.fieldLink RX2 9 "NamePlate$Pairs" "lefts" "[C", Cond.fieldLink RX2 15 "NamePlate$Pairs" "rights" "[C", Cond.methodLink RX4 93 yX2_adjustmentAt, Cond.instanceMethod yX2_adjustmentAt, Cond.selects RX2 yX2_adjustmentAt yX2_adjustmentAt, Cond.code yX2_adjustmentAt cX2_adjustmentAt 2 (some .int), Cond.fieldLink RX2 18 "NamePlate$Pairs" "adjustments" "[I", Cond.methodLink RX4 96 yX3_openness, Cond.static yX3_openness, Cond.initialized RX3, Cond.code yX3_openness cX3_openness 1 (some .int)]
def wsX4_measuredSpace : List Cond := .code yX4_measuredSpace cX4_measuredSpace 3 (some .int) :: ((wsX4_measuredSpace_r1 ++ wsX4_measuredSpace_r2) ++ wsX40 ++ wsX10 ++ wsX20)
def wsX4_inkOf : List Cond := .code yX4_inkOf cX4_inkOf 4 (some .int) :: ([.fieldLink RX4 12 "NamePlate$State" "names" "LNamePlate$Names;", .methodLink RX4 82 yX1_lengthOf, .instanceMethod yX1_lengthOf, .selects RX1 yX1_lengthOf yX1_lengthOf, .initialized RX1, .code yX1_lengthOf cX1_lengthOf 2 (some .int), .fieldLink RX1 15 "NamePlate$Names" "lengths" "[I", .methodLink RX4 85 yX1_codeAt, .instanceMethod yX1_codeAt, .selects RX1 yX1_codeAt yX1_codeAt, .code yX1_codeAt cX1_codeAt 4 (some .char), .fieldLink RX1 9 "NamePlate$Names" "codes" "[C", .methodLink RX4 116 yX3_ink, .static yX3_ink, .initialized RX3, .code yX3_ink cX3_ink 1 (some .int)] ++ wsX40 ++ wsX10)
def wsX4_mostUnits_r1 : List Cond := [Cond.fieldLink RX4 12 "NamePlate$State" "names" "LNamePlate$Names;", Cond.methodLink RX4 102 Lib.Math.max.name, Cond.static Lib.Math.max.name, Cond.initialized "java/lang/Math", Cond.code Lib.Math.max.name Lib.Math.max.code 2 (some .int), Cond.methodLink RX4 119 yX4_unitsOf, Cond.instanceMethod yX4_unitsOf, Cond.selects RX4 yX4_unitsOf yX4_unitsOf, Cond.initialized RX4, Cond.code yX4_unitsOf cX4_unitsOf 2 (some .int), Cond.methodLink RX4 82 yX1_lengthOf, Cond.instanceMethod yX1_lengthOf, Cond.selects RX1 yX1_lengthOf yX1_lengthOf, Cond.initialized RX1, Cond.code yX1_lengthOf cX1_lengthOf 2 (some .int), Cond.fieldLink RX1 15 "NamePlate$Names" "lengths" "[I", Cond.methodLink RX4 113 yX4_unitsBefore, Cond.instanceMethod yX4_unitsBefore, Cond.selects RX4 yX4_unitsBefore yX4_unitsBefore, Cond.code yX4_unitsBefore cX4_unitsBefore 5 (some .int), Cond.methodLink RX4 85 yX1_codeAt, Cond.instanceMethod yX1_codeAt, Cond.selects RX1 yX1_codeAt yX1_codeAt, Cond.code yX1_codeAt cX1_codeAt 4 (some .char)]
def wsX4_mostUnits_r2 : List Cond := [Cond.fieldLink RX1 9 "NamePlate$Names" "codes" "[C", Cond.methodLink RX4 111 yX3_width, Cond.static yX3_width, Cond.initialized RX3, Cond.code yX3_width cX3_width 1 (some .int), Cond.methodLink RX4 108 yX4_spaceBehind, Cond.instanceMethod yX4_spaceBehind, Cond.selects RX4 yX4_spaceBehind yX4_spaceBehind, Cond.code yX4_spaceBehind cX4_spaceBehind 6 (some .int), Cond.fieldLink RX4 21 "NamePlate$State" "pairs" "LNamePlate$Pairs;", Cond.methodLink RX4 89 yX2_placeOf, Cond.instanceMethod yX2_placeOf, Cond.selects RX2 yX2_placeOf yX2_placeOf, Cond.initialized RX2, Cond.code yX2_placeOf cX2_placeOf 4 (some .int), Cond.fieldLink RX2 22 "NamePlate$Pairs" "number" "I", Cond.fieldLink RX2 9 "NamePlate$Pairs" "lefts" "[C", Cond.fieldLink RX2 15 "NamePlate$Pairs" "rights" "[C", Cond.methodLink RX4 93 yX2_adjustmentAt, Cond.instanceMethod yX2_adjustmentAt, Cond.selects RX2 yX2_adjustmentAt yX2_adjustmentAt, Cond.code yX2_adjustmentAt cX2_adjustmentAt 2 (some .int), Cond.fieldLink RX2 18 "NamePlate$Pairs" "adjustments" "[I", Cond.methodLink RX4 96 yX3_openness]
def wsX4_mostUnits_r3 : List Cond := [Cond.static yX3_openness, Cond.code yX3_openness cX3_openness 1 (some .int)]
def wsX4_mostUnits : List Cond := .code yX4_mostUnits cX4_mostUnits 4 (some .int) :: ((wsX4_mostUnits_r1 ++ (wsX4_mostUnits_r2 ++ wsX4_mostUnits_r3)) ++ wsX40 ++ wsX10 ++ wsX20)
def wsX4_columnOf : List Cond := .code yX4_columnOf cX4_columnOf 2 (some .int) :: ([.fieldLink RX4 35 "NamePlate$State" "columns" "I"] ++ wsX40)
def wsX4_rowsFor : List Cond := .code yX4_rowsFor cX4_rowsFor 2 (some .int) :: ([.fieldLink RX4 35 "NamePlate$State" "columns" "I", .methodLink RX4 122 yX4_quotient, .static yX4_quotient, .initialized RX4, .code yX4_quotient cX4_quotient 2 (some .int), .methodLink RX4 160 yJ9_floorDiv_7cf53, .static yJ9_floorDiv_7cf53, .initialized RJ9, .code yJ9_floorDiv_7cf53 cJ9_floorDiv_7cf53 3 (some .int)] ++ wsX40)
def wsX4_rowBegin : List Cond := .code yX4_rowBegin cX4_rowBegin 3 (some .int) :: ([.fieldLink RX4 32 "NamePlate$State" "margin" "I", .methodLink RX4 125 yX4_rowOf, .instanceMethod yX4_rowOf, .selects RX4 yX4_rowOf yX4_rowOf, .initialized RX4, .code yX4_rowOf cX4_rowOf 2 (some .int), .fieldLink RX4 35 "NamePlate$State" "columns" "I", .methodLink RX4 122 yX4_quotient, .static yX4_quotient, .code yX4_quotient cX4_quotient 2 (some .int), .methodLink RX4 160 yJ9_floorDiv_7cf53, .static yJ9_floorDiv_7cf53, .initialized RJ9, .code yJ9_floorDiv_7cf53 cJ9_floorDiv_7cf53 3 (some .int)] ++ wsX40)
def wsX4_columnBegin : List Cond := .code yX4_columnBegin cX4_columnBegin 2 (some .int) :: ([.fieldLink RX4 32 "NamePlate$State" "margin" "I", .fieldLink RX4 25 "NamePlate$State" "width" "I", .methodLink RX4 128 yX4_columnOf, .instanceMethod yX4_columnOf, .selects RX4 yX4_columnOf yX4_columnOf, .initialized RX4, .code yX4_columnOf cX4_columnOf 2 (some .int), .fieldLink RX4 35 "NamePlate$State" "columns" "I", .methodLink RX4 131 yX4_columnWidth, .instanceMethod yX4_columnWidth, .selects RX4 yX4_columnWidth yX4_columnWidth, .code yX4_columnWidth cX4_columnWidth 2 (some .int), .methodLink RX4 122 yX4_quotient, .static yX4_quotient, .code yX4_quotient cX4_quotient 2 (some .int), .methodLink RX4 160 yJ9_floorDiv_7cf53, .static yJ9_floorDiv_7cf53, .initialized RJ9, .code yJ9_floorDiv_7cf53 cJ9_floorDiv_7cf53 3 (some .int)] ++ wsX40)
def wsX4_greatestSize : List Cond := .code yX4_greatestSize cX4_greatestSize 7 (some .int) :: ([.fieldLink RX4 32 "NamePlate$State" "margin" "I", .methodLink RX4 145 yX4_rowsFor, .instanceMethod yX4_rowsFor, .selects RX4 yX4_rowsFor yX4_rowsFor, .initialized RX4, .code yX4_rowsFor cX4_rowsFor 2 (some .int), .fieldLink RX4 35 "NamePlate$State" "columns" "I", .methodLink RX4 122 yX4_quotient, .static yX4_quotient, .code yX4_quotient cX4_quotient 2 (some .int), .methodLink RX4 160 yJ9_floorDiv_7cf53, .static yJ9_floorDiv_7cf53, .initialized RJ9, .code yJ9_floorDiv_7cf53 cJ9_floorDiv_7cf53 3 (some .int), .methodLink RX4 131 yX4_columnWidth, .instanceMethod yX4_columnWidth, .selects RX4 yX4_columnWidth yX4_columnWidth, .code yX4_columnWidth cX4_columnWidth 2 (some .int)] ++ wsX40)
def wsX4_sizeNow_r1 : List Cond := [Cond.fieldLink RX4 41 "NamePlate$State" "engravedSize" "I", Cond.fieldLink RX4 25 "NamePlate$State" "width" "I", Cond.fieldLink RX4 29 "NamePlate$State" "height" "I", Cond.fieldLink RX4 12 "NamePlate$State" "names" "LNamePlate$Names;", Cond.methodLink RX4 134 yX4_hasEngraved, Cond.instanceMethod yX4_hasEngraved, Cond.selects RX4 yX4_hasEngraved yX4_hasEngraved, Cond.initialized RX4, Cond.code yX4_hasEngraved cX4_hasEngraved 1 (some .boolean), Cond.fieldLink RX4 38 "NamePlate$State" "engraved" "I", Cond.methodLink RX4 138 yX4_mostUnits, Cond.instanceMethod yX4_mostUnits, Cond.selects RX4 yX4_mostUnits yX4_mostUnits, Cond.code yX4_mostUnits cX4_mostUnits 4 (some .int), Cond.methodLink RX4 102 Lib.Math.max.name, Cond.static Lib.Math.max.name, Cond.initialized "java/lang/Math", Cond.code Lib.Math.max.name Lib.Math.max.code 2 (some .int), Cond.methodLink RX4 119 yX4_unitsOf, Cond.instanceMethod yX4_unitsOf, Cond.selects RX4 yX4_unitsOf yX4_unitsOf, Cond.code yX4_unitsOf cX4_unitsOf 2 (some .int), Cond.methodLink RX4 82 yX1_lengthOf, Cond.instanceMethod yX1_lengthOf]
def wsX4_sizeNow_r2 : List Cond := [Cond.selects RX1 yX1_lengthOf yX1_lengthOf, Cond.initialized RX1, Cond.code yX1_lengthOf cX1_lengthOf 2 (some .int), Cond.fieldLink RX1 15 "NamePlate$Names" "lengths" "[I", Cond.methodLink RX4 113 yX4_unitsBefore, Cond.instanceMethod yX4_unitsBefore, Cond.selects RX4 yX4_unitsBefore yX4_unitsBefore, Cond.code yX4_unitsBefore cX4_unitsBefore 5 (some .int), Cond.methodLink RX4 85 yX1_codeAt, Cond.instanceMethod yX1_codeAt, Cond.selects RX1 yX1_codeAt yX1_codeAt, Cond.code yX1_codeAt cX1_codeAt 4 (some .char), Cond.fieldLink RX1 9 "NamePlate$Names" "codes" "[C", Cond.methodLink RX4 111 yX3_width, Cond.static yX3_width, Cond.initialized RX3, Cond.code yX3_width cX3_width 1 (some .int), Cond.methodLink RX4 108 yX4_spaceBehind, Cond.instanceMethod yX4_spaceBehind, Cond.selects RX4 yX4_spaceBehind yX4_spaceBehind, Cond.code yX4_spaceBehind cX4_spaceBehind 6 (some .int), Cond.fieldLink RX4 21 "NamePlate$State" "pairs" "LNamePlate$Pairs;", Cond.methodLink RX4 89 yX2_placeOf, Cond.instanceMethod yX2_placeOf]
def wsX4_sizeNow_r3 : List Cond := [Cond.selects RX2 yX2_placeOf yX2_placeOf, Cond.initialized RX2, Cond.code yX2_placeOf cX2_placeOf 4 (some .int), Cond.fieldLink RX2 22 "NamePlate$Pairs" "number" "I", Cond.fieldLink RX2 9 "NamePlate$Pairs" "lefts" "[C", Cond.fieldLink RX2 15 "NamePlate$Pairs" "rights" "[C", Cond.methodLink RX4 93 yX2_adjustmentAt, Cond.instanceMethod yX2_adjustmentAt, Cond.selects RX2 yX2_adjustmentAt yX2_adjustmentAt, Cond.code yX2_adjustmentAt cX2_adjustmentAt 2 (some .int), Cond.fieldLink RX2 18 "NamePlate$Pairs" "adjustments" "[I", Cond.methodLink RX4 96 yX3_openness, Cond.static yX3_openness, Cond.code yX3_openness cX3_openness 1 (some .int), Cond.methodLink RX4 141 yX4_greatestSize, Cond.instanceMethod yX4_greatestSize, Cond.selects RX4 yX4_greatestSize yX4_greatestSize, Cond.code yX4_greatestSize cX4_greatestSize 7 (some .int), Cond.fieldLink RX4 32 "NamePlate$State" "margin" "I", Cond.methodLink RX4 145 yX4_rowsFor, Cond.instanceMethod yX4_rowsFor, Cond.selects RX4 yX4_rowsFor yX4_rowsFor, Cond.code yX4_rowsFor cX4_rowsFor 2 (some .int), Cond.fieldLink RX4 35 "NamePlate$State" "columns" "I"]
def wsX4_sizeNow_r4 : List Cond := [Cond.methodLink RX4 122 yX4_quotient, Cond.static yX4_quotient, Cond.code yX4_quotient cX4_quotient 2 (some .int), Cond.methodLink RX4 160 yJ9_floorDiv_7cf53, Cond.static yJ9_floorDiv_7cf53, Cond.initialized RJ9, Cond.code yJ9_floorDiv_7cf53 cJ9_floorDiv_7cf53 3 (some .int), Cond.methodLink RX4 131 yX4_columnWidth, Cond.instanceMethod yX4_columnWidth, Cond.selects RX4 yX4_columnWidth yX4_columnWidth, Cond.code yX4_columnWidth cX4_columnWidth 2 (some .int)]
def wsX4_sizeNow : List Cond := .code yX4_sizeNow cX4_sizeNow 1 (some .int) :: ((wsX4_sizeNow_r1 ++ (wsX4_sizeNow_r2 ++ (wsX4_sizeNow_r3 ++ wsX4_sizeNow_r4))) ++ wsX40 ++ wsX10 ++ wsX20)
def wsX4_twiceInkMoment_r1 : List Cond := [Cond.fieldLink RX4 12 "NamePlate$State" "names" "LNamePlate$Names;", Cond.methodLink RX4 82 yX1_lengthOf, Cond.instanceMethod yX1_lengthOf, Cond.selects RX1 yX1_lengthOf yX1_lengthOf, Cond.initialized RX1, Cond.code yX1_lengthOf cX1_lengthOf 2 (some .int), Cond.fieldLink RX1 15 "NamePlate$Names" "lengths" "[I", Cond.methodLink RX4 85 yX1_codeAt, Cond.instanceMethod yX1_codeAt, Cond.selects RX1 yX1_codeAt yX1_codeAt, Cond.code yX1_codeAt cX1_codeAt 4 (some .char), Cond.fieldLink RX1 9 "NamePlate$Names" "codes" "[C", Cond.methodLink RX4 111 yX3_width, Cond.static yX3_width, Cond.initialized RX3, Cond.code yX3_width cX3_width 1 (some .int), Cond.methodLink RX4 116 yX3_ink, Cond.static yX3_ink, Cond.code yX3_ink cX3_ink 1 (some .int), Cond.methodLink RX4 108 yX4_spaceBehind, Cond.instanceMethod yX4_spaceBehind, Cond.selects RX4 yX4_spaceBehind yX4_spaceBehind, Cond.initialized RX4, Cond.code yX4_spaceBehind cX4_spaceBehind 6 (some .int)]
def wsX4_twiceInkMoment_r2 : List Cond := [Cond.fieldLink RX4 21 "NamePlate$State" "pairs" "LNamePlate$Pairs;", Cond.methodLink RX4 102 Lib.Math.max.name, Cond.static Lib.Math.max.name, Cond.initialized "java/lang/Math", Cond.code Lib.Math.max.name Lib.Math.max.code 2 (some .int), Cond.methodLink RX4 89 yX2_placeOf, Cond.instanceMethod yX2_placeOf, Cond.selects RX2 yX2_placeOf yX2_placeOf, Cond.initialized RX2, Cond.code yX2_placeOf cX2_placeOf 4 (some .int), Cond.fieldLink RX2 22 "NamePlate$Pairs" "number" "I", Cond.fieldLink RX2 9 "NamePlate$Pairs" "lefts" "[C", Cond.fieldLink RX2 15 "NamePlate$Pairs" "rights" "[C", Cond.methodLink RX4 93 yX2_adjustmentAt, Cond.instanceMethod yX2_adjustmentAt, Cond.selects RX2 yX2_adjustmentAt yX2_adjustmentAt, Cond.code yX2_adjustmentAt cX2_adjustmentAt 2 (some .int), Cond.fieldLink RX2 18 "NamePlate$Pairs" "adjustments" "[I", Cond.methodLink RX4 96 yX3_openness, Cond.static yX3_openness, Cond.code yX3_openness cX3_openness 1 (some .int)]
def wsX4_twiceInkMoment : List Cond := .code yX4_twiceInkMoment cX4_twiceInkMoment 7 (some .int) :: ((wsX4_twiceInkMoment_r1 ++ wsX4_twiceInkMoment_r2) ++ wsX40 ++ wsX10 ++ wsX20)
def wsX4_beginOf_r1 : List Cond := [Cond.fieldLink RX4 25 "NamePlate$State" "width" "I", Cond.methodLink RX4 157 Lib.Math.min.name, Cond.static Lib.Math.min.name, Cond.initialized "java/lang/Math", Cond.code Lib.Math.min.name Lib.Math.min.code 2 (some .int), Cond.methodLink RX4 102 Lib.Math.max.name, Cond.static Lib.Math.max.name, Cond.code Lib.Math.max.name Lib.Math.max.code 2 (some .int), Cond.methodLink RX4 131 yX4_columnWidth, Cond.instanceMethod yX4_columnWidth, Cond.selects RX4 yX4_columnWidth yX4_columnWidth, Cond.initialized RX4, Cond.code yX4_columnWidth cX4_columnWidth 2 (some .int), Cond.fieldLink RX4 32 "NamePlate$State" "margin" "I", Cond.fieldLink RX4 35 "NamePlate$State" "columns" "I", Cond.methodLink RX4 122 yX4_quotient, Cond.static yX4_quotient, Cond.code yX4_quotient cX4_quotient 2 (some .int), Cond.methodLink RX4 160 yJ9_floorDiv_7cf53, Cond.static yJ9_floorDiv_7cf53, Cond.initialized RJ9, Cond.code yJ9_floorDiv_7cf53 cJ9_floorDiv_7cf53 3 (some .int), Cond.methodLink RX4 148 yX4_columnBegin, Cond.instanceMethod yX4_columnBegin]
def wsX4_beginOf_r2 : List Cond := [Cond.selects RX4 yX4_columnBegin yX4_columnBegin, Cond.code yX4_columnBegin cX4_columnBegin 2 (some .int), Cond.methodLink RX4 128 yX4_columnOf, Cond.instanceMethod yX4_columnOf, Cond.selects RX4 yX4_columnOf yX4_columnOf, Cond.code yX4_columnOf cX4_columnOf 2 (some .int), Cond.methodLink RX4 151 yX4_inkOf, Cond.instanceMethod yX4_inkOf, Cond.selects RX4 yX4_inkOf yX4_inkOf, Cond.code yX4_inkOf cX4_inkOf 4 (some .int), Cond.fieldLink RX4 12 "NamePlate$State" "names" "LNamePlate$Names;", Cond.methodLink RX4 82 yX1_lengthOf, Cond.instanceMethod yX1_lengthOf, Cond.selects RX1 yX1_lengthOf yX1_lengthOf, Cond.initialized RX1, Cond.code yX1_lengthOf cX1_lengthOf 2 (some .int), Cond.fieldLink RX1 15 "NamePlate$Names" "lengths" "[I", Cond.methodLink RX4 85 yX1_codeAt, Cond.instanceMethod yX1_codeAt, Cond.selects RX1 yX1_codeAt yX1_codeAt, Cond.code yX1_codeAt cX1_codeAt 4 (some .char), Cond.fieldLink RX1 9 "NamePlate$Names" "codes" "[C", Cond.methodLink RX4 116 yX3_ink, Cond.static yX3_ink]
def wsX4_beginOf_r3 : List Cond := [Cond.initialized RX3, Cond.code yX3_ink cX3_ink 1 (some .int), Cond.methodLink RX4 154 yX4_twiceInkMoment, Cond.instanceMethod yX4_twiceInkMoment, Cond.selects RX4 yX4_twiceInkMoment yX4_twiceInkMoment, Cond.code yX4_twiceInkMoment cX4_twiceInkMoment 7 (some .int), Cond.methodLink RX4 111 yX3_width, Cond.static yX3_width, Cond.code yX3_width cX3_width 1 (some .int), Cond.methodLink RX4 108 yX4_spaceBehind, Cond.instanceMethod yX4_spaceBehind, Cond.selects RX4 yX4_spaceBehind yX4_spaceBehind, Cond.code yX4_spaceBehind cX4_spaceBehind 6 (some .int), Cond.fieldLink RX4 21 "NamePlate$State" "pairs" "LNamePlate$Pairs;", Cond.methodLink RX4 89 yX2_placeOf, Cond.instanceMethod yX2_placeOf, Cond.selects RX2 yX2_placeOf yX2_placeOf, Cond.initialized RX2, Cond.code yX2_placeOf cX2_placeOf 4 (some .int), Cond.fieldLink RX2 22 "NamePlate$Pairs" "number" "I", Cond.fieldLink RX2 9 "NamePlate$Pairs" "lefts" "[C", Cond.fieldLink RX2 15 "NamePlate$Pairs" "rights" "[C", Cond.methodLink RX4 93 yX2_adjustmentAt, Cond.instanceMethod yX2_adjustmentAt]
def wsX4_beginOf_r4 : List Cond := [Cond.selects RX2 yX2_adjustmentAt yX2_adjustmentAt, Cond.code yX2_adjustmentAt cX2_adjustmentAt 2 (some .int), Cond.fieldLink RX2 18 "NamePlate$Pairs" "adjustments" "[I", Cond.methodLink RX4 96 yX3_openness, Cond.static yX3_openness, Cond.code yX3_openness cX3_openness 1 (some .int), Cond.methodLink RX4 119 yX4_unitsOf, Cond.instanceMethod yX4_unitsOf, Cond.selects RX4 yX4_unitsOf yX4_unitsOf, Cond.code yX4_unitsOf cX4_unitsOf 2 (some .int), Cond.methodLink RX4 113 yX4_unitsBefore, Cond.instanceMethod yX4_unitsBefore, Cond.selects RX4 yX4_unitsBefore yX4_unitsBefore, Cond.code yX4_unitsBefore cX4_unitsBefore 5 (some .int)]
def wsX4_beginOf : List Cond := .code yX4_beginOf cX4_beginOf 9 (some .int) :: ((wsX4_beginOf_r1 ++ (wsX4_beginOf_r2 ++ (wsX4_beginOf_r3 ++ wsX4_beginOf_r4))) ++ wsX40 ++ wsX10 ++ wsX20)
def wsX4_middleBegin_r1 : List Cond := [Cond.fieldLink RX4 25 "NamePlate$State" "width" "I", Cond.methodLink RX4 102 Lib.Math.max.name, Cond.static Lib.Math.max.name, Cond.initialized "java/lang/Math", Cond.code Lib.Math.max.name Lib.Math.max.code 2 (some .int), Cond.methodLink RX4 148 yX4_columnBegin, Cond.instanceMethod yX4_columnBegin, Cond.selects RX4 yX4_columnBegin yX4_columnBegin, Cond.initialized RX4, Cond.code yX4_columnBegin cX4_columnBegin 2 (some .int), Cond.fieldLink RX4 32 "NamePlate$State" "margin" "I", Cond.methodLink RX4 128 yX4_columnOf, Cond.instanceMethod yX4_columnOf, Cond.selects RX4 yX4_columnOf yX4_columnOf, Cond.code yX4_columnOf cX4_columnOf 2 (some .int), Cond.fieldLink RX4 35 "NamePlate$State" "columns" "I", Cond.methodLink RX4 131 yX4_columnWidth, Cond.instanceMethod yX4_columnWidth, Cond.selects RX4 yX4_columnWidth yX4_columnWidth, Cond.code yX4_columnWidth cX4_columnWidth 2 (some .int), Cond.methodLink RX4 122 yX4_quotient, Cond.static yX4_quotient, Cond.code yX4_quotient cX4_quotient 2 (some .int), Cond.methodLink RX4 160 yJ9_floorDiv_7cf53]
def wsX4_middleBegin_r2 : List Cond := [Cond.static yJ9_floorDiv_7cf53, Cond.initialized RJ9, Cond.code yJ9_floorDiv_7cf53 cJ9_floorDiv_7cf53 3 (some .int), Cond.methodLink RX4 119 yX4_unitsOf, Cond.instanceMethod yX4_unitsOf, Cond.selects RX4 yX4_unitsOf yX4_unitsOf, Cond.code yX4_unitsOf cX4_unitsOf 2 (some .int), Cond.fieldLink RX4 12 "NamePlate$State" "names" "LNamePlate$Names;", Cond.methodLink RX4 82 yX1_lengthOf, Cond.instanceMethod yX1_lengthOf, Cond.selects RX1 yX1_lengthOf yX1_lengthOf, Cond.initialized RX1, Cond.code yX1_lengthOf cX1_lengthOf 2 (some .int), Cond.fieldLink RX1 15 "NamePlate$Names" "lengths" "[I", Cond.methodLink RX4 113 yX4_unitsBefore, Cond.instanceMethod yX4_unitsBefore, Cond.selects RX4 yX4_unitsBefore yX4_unitsBefore, Cond.code yX4_unitsBefore cX4_unitsBefore 5 (some .int), Cond.methodLink RX4 85 yX1_codeAt, Cond.instanceMethod yX1_codeAt, Cond.selects RX1 yX1_codeAt yX1_codeAt, Cond.code yX1_codeAt cX1_codeAt 4 (some .char), Cond.fieldLink RX1 9 "NamePlate$Names" "codes" "[C", Cond.methodLink RX4 111 yX3_width]
def wsX4_middleBegin_r3 : List Cond := [Cond.static yX3_width, Cond.initialized RX3, Cond.code yX3_width cX3_width 1 (some .int), Cond.methodLink RX4 108 yX4_spaceBehind, Cond.instanceMethod yX4_spaceBehind, Cond.selects RX4 yX4_spaceBehind yX4_spaceBehind, Cond.code yX4_spaceBehind cX4_spaceBehind 6 (some .int), Cond.fieldLink RX4 21 "NamePlate$State" "pairs" "LNamePlate$Pairs;", Cond.methodLink RX4 89 yX2_placeOf, Cond.instanceMethod yX2_placeOf, Cond.selects RX2 yX2_placeOf yX2_placeOf, Cond.initialized RX2, Cond.code yX2_placeOf cX2_placeOf 4 (some .int), Cond.fieldLink RX2 22 "NamePlate$Pairs" "number" "I", Cond.fieldLink RX2 9 "NamePlate$Pairs" "lefts" "[C", Cond.fieldLink RX2 15 "NamePlate$Pairs" "rights" "[C", Cond.methodLink RX4 93 yX2_adjustmentAt, Cond.instanceMethod yX2_adjustmentAt, Cond.selects RX2 yX2_adjustmentAt yX2_adjustmentAt, Cond.code yX2_adjustmentAt cX2_adjustmentAt 2 (some .int), Cond.fieldLink RX2 18 "NamePlate$Pairs" "adjustments" "[I", Cond.methodLink RX4 96 yX3_openness, Cond.static yX3_openness, Cond.code yX3_openness cX3_openness 1 (some .int)]
def wsX4_middleBegin : List Cond := .code yX4_middleBegin cX4_middleBegin 5 (some .int) :: ((wsX4_middleBegin_r1 ++ (wsX4_middleBegin_r2 ++ wsX4_middleBegin_r3)) ++ wsX40 ++ wsX10 ++ wsX20)
def wsX4_indexAt_r1 : List Cond := [Cond.fieldLink RX4 12 "NamePlate$State" "names" "LNamePlate$Names;", Cond.methodLink RX4 163 yX4_beginOf, Cond.instanceMethod yX4_beginOf, Cond.selects RX4 yX4_beginOf yX4_beginOf, Cond.initialized RX4, Cond.code yX4_beginOf cX4_beginOf 9 (some .int), Cond.fieldLink RX4 25 "NamePlate$State" "width" "I", Cond.methodLink RX4 157 Lib.Math.min.name, Cond.static Lib.Math.min.name, Cond.initialized "java/lang/Math", Cond.code Lib.Math.min.name Lib.Math.min.code 2 (some .int), Cond.methodLink RX4 102 Lib.Math.max.name, Cond.static Lib.Math.max.name, Cond.code Lib.Math.max.name Lib.Math.max.code 2 (some .int), Cond.methodLink RX4 131 yX4_columnWidth, Cond.instanceMethod yX4_columnWidth, Cond.selects RX4 yX4_columnWidth yX4_columnWidth, Cond.code yX4_columnWidth cX4_columnWidth 2 (some .int), Cond.fieldLink RX4 32 "NamePlate$State" "margin" "I", Cond.fieldLink RX4 35 "NamePlate$State" "columns" "I", Cond.methodLink RX4 122 yX4_quotient, Cond.static yX4_quotient, Cond.code yX4_quotient cX4_quotient 2 (some .int), Cond.methodLink RX4 160 yJ9_floorDiv_7cf53]
def wsX4_indexAt_r2 : List Cond := [Cond.static yJ9_floorDiv_7cf53, Cond.initialized RJ9, Cond.code yJ9_floorDiv_7cf53 cJ9_floorDiv_7cf53 3 (some .int), Cond.methodLink RX4 148 yX4_columnBegin, Cond.instanceMethod yX4_columnBegin, Cond.selects RX4 yX4_columnBegin yX4_columnBegin, Cond.code yX4_columnBegin cX4_columnBegin 2 (some .int), Cond.methodLink RX4 128 yX4_columnOf, Cond.instanceMethod yX4_columnOf, Cond.selects RX4 yX4_columnOf yX4_columnOf, Cond.code yX4_columnOf cX4_columnOf 2 (some .int), Cond.methodLink RX4 151 yX4_inkOf, Cond.instanceMethod yX4_inkOf, Cond.selects RX4 yX4_inkOf yX4_inkOf, Cond.code yX4_inkOf cX4_inkOf 4 (some .int), Cond.methodLink RX4 82 yX1_lengthOf, Cond.instanceMethod yX1_lengthOf, Cond.selects RX1 yX1_lengthOf yX1_lengthOf, Cond.initialized RX1, Cond.code yX1_lengthOf cX1_lengthOf 2 (some .int), Cond.fieldLink RX1 15 "NamePlate$Names" "lengths" "[I", Cond.methodLink RX4 85 yX1_codeAt, Cond.instanceMethod yX1_codeAt, Cond.selects RX1 yX1_codeAt yX1_codeAt]
def wsX4_indexAt_r3 : List Cond := [Cond.code yX1_codeAt cX1_codeAt 4 (some .char), Cond.fieldLink RX1 9 "NamePlate$Names" "codes" "[C", Cond.methodLink RX4 116 yX3_ink, Cond.static yX3_ink, Cond.initialized RX3, Cond.code yX3_ink cX3_ink 1 (some .int), Cond.methodLink RX4 154 yX4_twiceInkMoment, Cond.instanceMethod yX4_twiceInkMoment, Cond.selects RX4 yX4_twiceInkMoment yX4_twiceInkMoment, Cond.code yX4_twiceInkMoment cX4_twiceInkMoment 7 (some .int), Cond.methodLink RX4 111 yX3_width, Cond.static yX3_width, Cond.code yX3_width cX3_width 1 (some .int), Cond.methodLink RX4 108 yX4_spaceBehind, Cond.instanceMethod yX4_spaceBehind, Cond.selects RX4 yX4_spaceBehind yX4_spaceBehind, Cond.code yX4_spaceBehind cX4_spaceBehind 6 (some .int), Cond.fieldLink RX4 21 "NamePlate$State" "pairs" "LNamePlate$Pairs;", Cond.methodLink RX4 89 yX2_placeOf, Cond.instanceMethod yX2_placeOf, Cond.selects RX2 yX2_placeOf yX2_placeOf, Cond.initialized RX2, Cond.code yX2_placeOf cX2_placeOf 4 (some .int), Cond.fieldLink RX2 22 "NamePlate$Pairs" "number" "I"]
def wsX4_indexAt_r4 : List Cond := [Cond.fieldLink RX2 9 "NamePlate$Pairs" "lefts" "[C", Cond.fieldLink RX2 15 "NamePlate$Pairs" "rights" "[C", Cond.methodLink RX4 93 yX2_adjustmentAt, Cond.instanceMethod yX2_adjustmentAt, Cond.selects RX2 yX2_adjustmentAt yX2_adjustmentAt, Cond.code yX2_adjustmentAt cX2_adjustmentAt 2 (some .int), Cond.fieldLink RX2 18 "NamePlate$Pairs" "adjustments" "[I", Cond.methodLink RX4 96 yX3_openness, Cond.static yX3_openness, Cond.code yX3_openness cX3_openness 1 (some .int), Cond.methodLink RX4 119 yX4_unitsOf, Cond.instanceMethod yX4_unitsOf, Cond.selects RX4 yX4_unitsOf yX4_unitsOf, Cond.code yX4_unitsOf cX4_unitsOf 2 (some .int), Cond.methodLink RX4 113 yX4_unitsBefore, Cond.instanceMethod yX4_unitsBefore, Cond.selects RX4 yX4_unitsBefore yX4_unitsBefore, Cond.code yX4_unitsBefore cX4_unitsBefore 5 (some .int)]
def wsX4_indexAt : List Cond := .code yX4_indexAt cX4_indexAt 7 (some .int) :: ((wsX4_indexAt_r1 ++ (wsX4_indexAt_r2 ++ (wsX4_indexAt_r3 ++ wsX4_indexAt_r4))) ++ wsX40 ++ wsX10 ++ wsX20)
def wsX5_init : List Cond := .code yX5_init cX5_init 1 none :: ([.methodLink RX5 3 objectInit, .instanceMethod objectInit, .code objectInit ⟨#[0xb1]⟩ 1 none, .arrayClass .char, .fieldLink RX5 9 "NamePlate$Text" "characters" "[C", .fieldLink RX5 15 "NamePlate$Text" "length" "I"] ++ wsX50)
def wsX5_isFull : List Cond := .code yX5_isFull cX5_isFull 1 (some .boolean) :: ([.fieldLink RX5 15 "NamePlate$Text" "length" "I"] ++ wsX50)
def wsX5_append : List Cond := .code yX5_append cX5_append 2 none :: ([.fieldLink RX5 15 "NamePlate$Text" "length" "I", .fieldLink RX5 9 "NamePlate$Text" "characters" "[C"] ++ wsX50)
def wsX5_characterAt : List Cond := .code yX5_characterAt cX5_characterAt 2 (some .char) :: ([.fieldLink RX5 9 "NamePlate$Text" "characters" "[C"] ++ wsX50)
def wsX5_namesInIt : List Cond := .code yX5_namesInIt cX5_namesInIt 3 (some .int) :: ([.fieldLink RX5 15 "NamePlate$Text" "length" "I", .methodLink RX5 19 yX5_characterAt, .instanceMethod yX5_characterAt, .selects RX5 yX5_characterAt yX5_characterAt, .initialized RX5, .code yX5_characterAt cX5_characterAt 2 (some .char), .fieldLink RX5 9 "NamePlate$Text" "characters" "[C"] ++ wsX50)
def wsX5_isAllowed : List Cond := .code yX5_isAllowed cX5_isAllowed 3 (some .boolean) :: ([.methodLink RX5 27 yX3_isLetter, .static yX3_isLetter, .initialized RX3, .code yX3_isLetter cX3_isLetter 1 (some .boolean), .methodLink RX5 33 yX3_isMark, .static yX3_isMark, .code yX3_isMark cX3_isMark 1 (some .boolean)])
def wsX5_fault : List Cond := .code yX5_fault cX5_fault 5 (some .int) :: ([.fieldLink RX5 15 "NamePlate$Text" "length" "I", .methodLink RX5 19 yX5_characterAt, .instanceMethod yX5_characterAt, .selects RX5 yX5_characterAt yX5_characterAt, .initialized RX5, .code yX5_characterAt cX5_characterAt 2 (some .char), .fieldLink RX5 9 "NamePlate$Text" "characters" "[C", .methodLink RX5 23 yX5_isAllowed, .static yX5_isAllowed, .code yX5_isAllowed cX5_isAllowed 3 (some .boolean), .methodLink RX5 27 yX3_isLetter, .static yX3_isLetter, .initialized RX3, .code yX3_isLetter cX3_isLetter 1 (some .boolean), .methodLink RX5 33 yX3_isMark, .static yX3_isMark, .code yX3_isMark cX3_isMark 1 (some .boolean)] ++ wsX50)
def wsX6_init_r1 : List Cond := [Cond.methodLink RX6 1 objectInit, Cond.instanceMethod objectInit, Cond.code objectInit ⟨#[0xb1]⟩ 1 none, Cond.classLink RX6 7 RX4, Cond.instantiable RX4 10, Cond.initialized RX4, Cond.fieldLink RX6 10 "NamePlate" "now" "LNamePlate$State;", Cond.fieldLink RX6 16 "NamePlate" "snapshot" "LNamePlate$State;", Cond.classLink RX6 19 RX0, Cond.instantiable RX0 3, Cond.initialized RX0, Cond.fieldLink RX6 22 "NamePlate" "history" "LNamePlate$History;", Cond.classLink RX6 26 RX5, Cond.instantiable RX5 2, Cond.initialized RX5, Cond.fieldLink RX6 29 "NamePlate" "text" "LNamePlate$Text;", Cond.fieldLink RX6 33 "NamePlate" "hasSnapshot" "Z", Cond.instanceMethod yX4_init, Cond.code yX4_init cX4_init 1 none, Cond.methodLink RX4 3 objectInit, Cond.classLink RX4 9 RX1, Cond.instantiable RX1 3, Cond.initialized RX1, Cond.fieldLink RX4 12 "NamePlate$State" "names" "LNamePlate$Names;"]
def wsX6_init_r2 : List Cond := [Cond.classLink RX4 18 RX2, Cond.instantiable RX2 4, Cond.initialized RX2, Cond.fieldLink RX4 21 "NamePlate$State" "pairs" "LNamePlate$Pairs;", Cond.fieldLink RX4 25 "NamePlate$State" "width" "I", Cond.fieldLink RX4 29 "NamePlate$State" "height" "I", Cond.fieldLink RX4 32 "NamePlate$State" "margin" "I", Cond.fieldLink RX4 35 "NamePlate$State" "columns" "I", Cond.fieldLink RX4 38 "NamePlate$State" "engraved" "I", Cond.fieldLink RX4 41 "NamePlate$State" "engravedSize" "I", Cond.fieldLink RX4 44 "NamePlate$State" "cuts" "I", Cond.fieldLink RX4 47 "NamePlate$State" "lost" "I", Cond.instanceMethod yX1_init, Cond.code yX1_init cX1_init 1 none, Cond.methodLink RX1 3 objectInit, Cond.arrayClass .char, Cond.fieldLink RX1 9 "NamePlate$Names" "codes" "[C", Cond.arrayClass .int, Cond.fieldLink RX1 15 "NamePlate$Names" "lengths" "[I", Cond.fieldLink RX1 19 "NamePlate$Names" "number" "I", Cond.instanceMethod yX2_init, Cond.code yX2_init cX2_init 1 none, Cond.methodLink RX2 3 objectInit, Cond.fieldLink RX2 9 "NamePlate$Pairs" "lefts" "[C"]
def wsX6_init_r3 : List Cond := [Cond.fieldLink RX2 15 "NamePlate$Pairs" "rights" "[C", Cond.fieldLink RX2 18 "NamePlate$Pairs" "adjustments" "[I", Cond.fieldLink RX2 22 "NamePlate$Pairs" "number" "I", Cond.methodLink RX6 21 yX0_init, Cond.instanceMethod yX0_init, Cond.code yX0_init cX0_init 2 none, Cond.methodLink RX0 3 objectInit, Cond.classLink RX0 9 RX4, Cond.fieldLink RX0 11 "NamePlate$History" "states" "[LNamePlate$State;", Cond.fieldLink RX0 17 "NamePlate$History" "oldest" "I", Cond.fieldLink RX0 21 "NamePlate$History" "number" "I", Cond.instanceMethod yX5_init, Cond.code yX5_init cX5_init 1 none, Cond.methodLink RX5 3 objectInit, Cond.fieldLink RX5 9 "NamePlate$Text" "characters" "[C", Cond.fieldLink RX5 15 "NamePlate$Text" "length" "I"]
def wsX6_init : List Cond := .code yX6_init cX6_init 1 none :: ((wsX6_init_r1 ++ (wsX6_init_r2 ++ wsX6_init_r3)) ++ wsX40 ++ wsX60 ++ wsX00 ++ wsX50 ++ wsX10 ++ wsX20)
def wsX6_isPlate : List Cond := .code yX6_isPlate cX6_isPlate 2 (some .boolean) :: ([])
def wsX6_recut_r1 : List Cond := [Cond.fieldLink RX6 22 "NamePlate" "history" "LNamePlate$History;", Cond.fieldLink RX6 10 "NamePlate" "now" "LNamePlate$State;", Cond.methodLink RX6 37 yX6_isPlate, Cond.static yX6_isPlate, Cond.initialized RX6, Cond.code yX6_isPlate cX6_isPlate 2 (some .boolean), Cond.methodLink RX6 41 yX0_record, Cond.instanceMethod yX0_record, Cond.selects RX0 yX0_record yX0_record, Cond.initialized RX0, Cond.code yX0_record cX0_record 3 none, Cond.fieldLink RX0 21 "NamePlate$History" "number" "I", Cond.fieldLink RX0 17 "NamePlate$History" "oldest" "I", Cond.methodLink RX0 25 yX0_slotAt, Cond.instanceMethod yX0_slotAt, Cond.selects RX0 yX0_slotAt yX0_slotAt, Cond.code yX0_slotAt cX0_slotAt 3 (some (.object "NamePlate$State")), Cond.fieldLink RX0 11 "NamePlate$History" "states" "[LNamePlate$State;", Cond.methodLink RX0 29 yX4_copyFrom, Cond.instanceMethod yX4_copyFrom, Cond.selects RX4 yX4_copyFrom yX4_copyFrom, Cond.initialized RX4, Cond.code yX4_copyFrom cX4_copyFrom 2 none, Cond.fieldLink RX4 12 "NamePlate$State" "names" "LNamePlate$Names;"]
def wsX6_recut_r2 : List Cond := [Cond.fieldLink RX4 21 "NamePlate$State" "pairs" "LNamePlate$Pairs;", Cond.fieldLink RX4 25 "NamePlate$State" "width" "I", Cond.fieldLink RX4 29 "NamePlate$State" "height" "I", Cond.fieldLink RX4 32 "NamePlate$State" "margin" "I", Cond.fieldLink RX4 35 "NamePlate$State" "columns" "I", Cond.fieldLink RX4 38 "NamePlate$State" "engraved" "I", Cond.fieldLink RX4 41 "NamePlate$State" "engravedSize" "I", Cond.fieldLink RX4 44 "NamePlate$State" "cuts" "I", Cond.fieldLink RX4 47 "NamePlate$State" "lost" "I", Cond.methodLink RX4 50 yX1_copyFrom, Cond.instanceMethod yX1_copyFrom, Cond.selects RX1 yX1_copyFrom yX1_copyFrom, Cond.initialized RX1, Cond.code yX1_copyFrom cX1_copyFrom 2 none, Cond.fieldLink RX1 9 "NamePlate$Names" "codes" "[C", Cond.methodLink RX1 23 arraycopyName, Cond.native arraycopyName, Cond.static arraycopyName, Cond.initialized "java/lang/System", Cond.fieldLink RX1 15 "NamePlate$Names" "lengths" "[I", Cond.fieldLink RX1 19 "NamePlate$Names" "number" "I", Cond.methodLink RX4 54 yX2_copyFrom, Cond.instanceMethod yX2_copyFrom, Cond.selects RX2 yX2_copyFrom yX2_copyFrom]
def wsX6_recut_r3 : List Cond := [Cond.initialized RX2, Cond.code yX2_copyFrom cX2_copyFrom 2 none, Cond.fieldLink RX2 9 "NamePlate$Pairs" "lefts" "[C", Cond.methodLink RX2 26 arraycopyName, Cond.fieldLink RX2 15 "NamePlate$Pairs" "rights" "[C", Cond.fieldLink RX2 18 "NamePlate$Pairs" "adjustments" "[I", Cond.fieldLink RX2 22 "NamePlate$Pairs" "number" "I", Cond.methodLink RX6 45 yX4_cutAnew, Cond.instanceMethod yX4_cutAnew, Cond.selects RX4 yX4_cutAnew yX4_cutAnew, Cond.code yX4_cutAnew cX4_cutAnew 4 (some .int), Cond.methodLink RX4 57 yX4_engravedNames, Cond.instanceMethod yX4_engravedNames, Cond.selects RX4 yX4_engravedNames yX4_engravedNames, Cond.code yX4_engravedNames cX4_engravedNames 1 (some .int), Cond.methodLink RX4 61 yJ6_bitCount_0f7a4, Cond.static yJ6_bitCount_0f7a4, Cond.initialized RJ6, Cond.code yJ6_bitCount_0f7a4 cJ6_bitCount_0f7a4 1 (some .int), Cond.constant RJ6 265 (1431655765), Cond.constant RJ6 266 (858993459), Cond.constant RJ6 267 (252645135)]
def wsX6_recut : List Cond := .code yX6_recut cX6_recut 3 (some .int) :: ((wsX6_recut_r1 ++ (wsX6_recut_r2 ++ wsX6_recut_r3)) ++ wsX60 ++ wsX00 ++ wsX40 ++ wsX10 ++ wsX20)
def wsX6_setMargin_r1 : List Cond := [Cond.fieldLink RX6 10 "NamePlate" "now" "LNamePlate$State;", Cond.fieldLink RX6 22 "NamePlate" "history" "LNamePlate$History;", Cond.methodLink RX6 49 yX4_hasEngraved, Cond.instanceMethod yX4_hasEngraved, Cond.selects RX4 yX4_hasEngraved yX4_hasEngraved, Cond.initialized RX4, Cond.code yX4_hasEngraved cX4_hasEngraved 1 (some .boolean), Cond.fieldLink RX4 38 "NamePlate$State" "engraved" "I", Cond.methodLink RX6 41 yX0_record, Cond.instanceMethod yX0_record, Cond.selects RX0 yX0_record yX0_record, Cond.initialized RX0, Cond.code yX0_record cX0_record 3 none, Cond.fieldLink RX0 21 "NamePlate$History" "number" "I", Cond.fieldLink RX0 17 "NamePlate$History" "oldest" "I", Cond.methodLink RX0 25 yX0_slotAt, Cond.instanceMethod yX0_slotAt, Cond.selects RX0 yX0_slotAt yX0_slotAt, Cond.code yX0_slotAt cX0_slotAt 3 (some (.object "NamePlate$State")), Cond.fieldLink RX0 11 "NamePlate$History" "states" "[LNamePlate$State;", Cond.methodLink RX0 29 yX4_copyFrom, Cond.instanceMethod yX4_copyFrom, Cond.selects RX4 yX4_copyFrom yX4_copyFrom, Cond.code yX4_copyFrom cX4_copyFrom 2 none]
def wsX6_setMargin_r2 : List Cond := [Cond.fieldLink RX4 12 "NamePlate$State" "names" "LNamePlate$Names;", Cond.fieldLink RX4 21 "NamePlate$State" "pairs" "LNamePlate$Pairs;", Cond.fieldLink RX4 25 "NamePlate$State" "width" "I", Cond.fieldLink RX4 29 "NamePlate$State" "height" "I", Cond.fieldLink RX4 32 "NamePlate$State" "margin" "I", Cond.fieldLink RX4 35 "NamePlate$State" "columns" "I", Cond.fieldLink RX4 41 "NamePlate$State" "engravedSize" "I", Cond.fieldLink RX4 44 "NamePlate$State" "cuts" "I", Cond.fieldLink RX4 47 "NamePlate$State" "lost" "I", Cond.methodLink RX4 50 yX1_copyFrom, Cond.instanceMethod yX1_copyFrom, Cond.selects RX1 yX1_copyFrom yX1_copyFrom, Cond.initialized RX1, Cond.code yX1_copyFrom cX1_copyFrom 2 none, Cond.fieldLink RX1 9 "NamePlate$Names" "codes" "[C", Cond.methodLink RX1 23 arraycopyName, Cond.native arraycopyName, Cond.static arraycopyName, Cond.initialized "java/lang/System", Cond.fieldLink RX1 15 "NamePlate$Names" "lengths" "[I", Cond.fieldLink RX1 19 "NamePlate$Names" "number" "I", Cond.methodLink RX4 54 yX2_copyFrom, Cond.instanceMethod yX2_copyFrom, Cond.selects RX2 yX2_copyFrom yX2_copyFrom]
def wsX6_setMargin_r3 : List Cond := [Cond.initialized RX2, Cond.code yX2_copyFrom cX2_copyFrom 2 none, Cond.fieldLink RX2 9 "NamePlate$Pairs" "lefts" "[C", Cond.methodLink RX2 26 arraycopyName, Cond.fieldLink RX2 15 "NamePlate$Pairs" "rights" "[C", Cond.fieldLink RX2 18 "NamePlate$Pairs" "adjustments" "[I", Cond.fieldLink RX2 22 "NamePlate$Pairs" "number" "I"]
def wsX6_setMargin : List Cond := .code yX6_setMargin cX6_setMargin 3 (some .int) :: ((wsX6_setMargin_r1 ++ (wsX6_setMargin_r2 ++ wsX6_setMargin_r3)) ++ wsX60 ++ wsX40 ++ wsX00 ++ wsX10 ++ wsX20)
def wsX6_setColumns_r1 : List Cond := [Cond.fieldLink RX6 10 "NamePlate" "now" "LNamePlate$State;", Cond.fieldLink RX6 22 "NamePlate" "history" "LNamePlate$History;", Cond.methodLink RX6 49 yX4_hasEngraved, Cond.instanceMethod yX4_hasEngraved, Cond.selects RX4 yX4_hasEngraved yX4_hasEngraved, Cond.initialized RX4, Cond.code yX4_hasEngraved cX4_hasEngraved 1 (some .boolean), Cond.fieldLink RX4 38 "NamePlate$State" "engraved" "I", Cond.methodLink RX6 41 yX0_record, Cond.instanceMethod yX0_record, Cond.selects RX0 yX0_record yX0_record, Cond.initialized RX0, Cond.code yX0_record cX0_record 3 none, Cond.fieldLink RX0 21 "NamePlate$History" "number" "I", Cond.fieldLink RX0 17 "NamePlate$History" "oldest" "I", Cond.methodLink RX0 25 yX0_slotAt, Cond.instanceMethod yX0_slotAt, Cond.selects RX0 yX0_slotAt yX0_slotAt, Cond.code yX0_slotAt cX0_slotAt 3 (some (.object "NamePlate$State")), Cond.fieldLink RX0 11 "NamePlate$History" "states" "[LNamePlate$State;", Cond.methodLink RX0 29 yX4_copyFrom, Cond.instanceMethod yX4_copyFrom, Cond.selects RX4 yX4_copyFrom yX4_copyFrom, Cond.code yX4_copyFrom cX4_copyFrom 2 none]
def wsX6_setColumns_r2 : List Cond := [Cond.fieldLink RX4 12 "NamePlate$State" "names" "LNamePlate$Names;", Cond.fieldLink RX4 21 "NamePlate$State" "pairs" "LNamePlate$Pairs;", Cond.fieldLink RX4 25 "NamePlate$State" "width" "I", Cond.fieldLink RX4 29 "NamePlate$State" "height" "I", Cond.fieldLink RX4 32 "NamePlate$State" "margin" "I", Cond.fieldLink RX4 35 "NamePlate$State" "columns" "I", Cond.fieldLink RX4 41 "NamePlate$State" "engravedSize" "I", Cond.fieldLink RX4 44 "NamePlate$State" "cuts" "I", Cond.fieldLink RX4 47 "NamePlate$State" "lost" "I", Cond.methodLink RX4 50 yX1_copyFrom, Cond.instanceMethod yX1_copyFrom, Cond.selects RX1 yX1_copyFrom yX1_copyFrom, Cond.initialized RX1, Cond.code yX1_copyFrom cX1_copyFrom 2 none, Cond.fieldLink RX1 9 "NamePlate$Names" "codes" "[C", Cond.methodLink RX1 23 arraycopyName, Cond.native arraycopyName, Cond.static arraycopyName, Cond.initialized "java/lang/System", Cond.fieldLink RX1 15 "NamePlate$Names" "lengths" "[I", Cond.fieldLink RX1 19 "NamePlate$Names" "number" "I", Cond.methodLink RX4 54 yX2_copyFrom, Cond.instanceMethod yX2_copyFrom, Cond.selects RX2 yX2_copyFrom yX2_copyFrom]
def wsX6_setColumns_r3 : List Cond := [Cond.initialized RX2, Cond.code yX2_copyFrom cX2_copyFrom 2 none, Cond.fieldLink RX2 9 "NamePlate$Pairs" "lefts" "[C", Cond.methodLink RX2 26 arraycopyName, Cond.fieldLink RX2 15 "NamePlate$Pairs" "rights" "[C", Cond.fieldLink RX2 18 "NamePlate$Pairs" "adjustments" "[I", Cond.fieldLink RX2 22 "NamePlate$Pairs" "number" "I"]
def wsX6_setColumns : List Cond := .code yX6_setColumns cX6_setColumns 3 (some .int) :: ((wsX6_setColumns_r1 ++ (wsX6_setColumns_r2 ++ wsX6_setColumns_r3)) ++ wsX60 ++ wsX40 ++ wsX00 ++ wsX10 ++ wsX20)
def wsX6_adjust_r1 : List Cond := [Cond.fieldLink RX6 10 "NamePlate" "now" "LNamePlate$State;", Cond.fieldLink RX6 22 "NamePlate" "history" "LNamePlate$History;", Cond.methodLink RX6 60 yX3_isKnown, Cond.static yX3_isKnown, Cond.initialized RX3, Cond.code yX3_isKnown cX3_isKnown 1 (some .boolean), Cond.methodLink RX3 7 yX3_isLetter, Cond.static yX3_isLetter, Cond.code yX3_isLetter cX3_isLetter 1 (some .boolean), Cond.methodLink RX3 13 yX3_isMark, Cond.static yX3_isMark, Cond.code yX3_isMark cX3_isMark 1 (some .boolean), Cond.methodLink RX6 66 yX4_isEngravedPair, Cond.instanceMethod yX4_isEngravedPair, Cond.selects RX4 yX4_isEngravedPair yX4_isEngravedPair, Cond.initialized RX4, Cond.code yX4_isEngravedPair cX4_isEngravedPair 4 (some .boolean), Cond.fieldLink RX4 12 "NamePlate$State" "names" "LNamePlate$Names;", Cond.methodLink RX4 70 yX4_isEngraved, Cond.instanceMethod yX4_isEngraved, Cond.selects RX4 yX4_isEngraved yX4_isEngraved, Cond.code yX4_isEngraved cX4_isEngraved 2 (some .boolean), Cond.fieldLink RX4 38 "NamePlate$State" "engraved" "I", Cond.methodLink RX4 78 yX4_hasPair]
def wsX6_adjust_r2 : List Cond := [Cond.instanceMethod yX4_hasPair, Cond.selects RX4 yX4_hasPair yX4_hasPair, Cond.code yX4_hasPair cX4_hasPair 5 (some .boolean), Cond.methodLink RX4 82 yX1_lengthOf, Cond.instanceMethod yX1_lengthOf, Cond.selects RX1 yX1_lengthOf yX1_lengthOf, Cond.initialized RX1, Cond.code yX1_lengthOf cX1_lengthOf 2 (some .int), Cond.fieldLink RX1 15 "NamePlate$Names" "lengths" "[I", Cond.methodLink RX4 85 yX1_codeAt, Cond.instanceMethod yX1_codeAt, Cond.selects RX1 yX1_codeAt yX1_codeAt, Cond.code yX1_codeAt cX1_codeAt 4 (some .char), Cond.fieldLink RX1 9 "NamePlate$Names" "codes" "[C", Cond.methodLink RX6 70 yX4_adjustmentOf, Cond.instanceMethod yX4_adjustmentOf, Cond.selects RX4 yX4_adjustmentOf yX4_adjustmentOf, Cond.code yX4_adjustmentOf cX4_adjustmentOf 3 (some .int), Cond.fieldLink RX4 21 "NamePlate$State" "pairs" "LNamePlate$Pairs;", Cond.methodLink RX4 89 yX2_placeOf, Cond.instanceMethod yX2_placeOf, Cond.selects RX2 yX2_placeOf yX2_placeOf, Cond.initialized RX2, Cond.code yX2_placeOf cX2_placeOf 4 (some .int)]
def wsX6_adjust_r3 : List Cond := [Cond.fieldLink RX2 22 "NamePlate$Pairs" "number" "I", Cond.fieldLink RX2 9 "NamePlate$Pairs" "lefts" "[C", Cond.fieldLink RX2 15 "NamePlate$Pairs" "rights" "[C", Cond.methodLink RX4 93 yX2_adjustmentAt, Cond.instanceMethod yX2_adjustmentAt, Cond.selects RX2 yX2_adjustmentAt yX2_adjustmentAt, Cond.code yX2_adjustmentAt cX2_adjustmentAt 2 (some .int), Cond.fieldLink RX2 18 "NamePlate$Pairs" "adjustments" "[I", Cond.methodLink RX6 78 yX2_isFull, Cond.instanceMethod yX2_isFull, Cond.selects RX2 yX2_isFull yX2_isFull, Cond.code yX2_isFull cX2_isFull 1 (some .boolean), Cond.methodLink RX6 41 yX0_record, Cond.instanceMethod yX0_record, Cond.selects RX0 yX0_record yX0_record, Cond.initialized RX0, Cond.code yX0_record cX0_record 3 none, Cond.fieldLink RX0 21 "NamePlate$History" "number" "I", Cond.fieldLink RX0 17 "NamePlate$History" "oldest" "I", Cond.methodLink RX0 25 yX0_slotAt, Cond.instanceMethod yX0_slotAt, Cond.selects RX0 yX0_slotAt yX0_slotAt, Cond.code yX0_slotAt cX0_slotAt 3 (some (.object "NamePlate$State")), Cond.fieldLink RX0 11 "NamePlate$History" "states" "[LNamePlate$State;"]
def wsX6_adjust_r4 : List Cond := [Cond.methodLink RX0 29 yX4_copyFrom, Cond.instanceMethod yX4_copyFrom, Cond.selects RX4 yX4_copyFrom yX4_copyFrom, Cond.code yX4_copyFrom cX4_copyFrom 2 none, Cond.fieldLink RX4 25 "NamePlate$State" "width" "I", Cond.fieldLink RX4 29 "NamePlate$State" "height" "I", Cond.fieldLink RX4 32 "NamePlate$State" "margin" "I", Cond.fieldLink RX4 35 "NamePlate$State" "columns" "I", Cond.fieldLink RX4 41 "NamePlate$State" "engravedSize" "I", Cond.fieldLink RX4 44 "NamePlate$State" "cuts" "I", Cond.fieldLink RX4 47 "NamePlate$State" "lost" "I", Cond.methodLink RX4 50 yX1_copyFrom, Cond.instanceMethod yX1_copyFrom, Cond.selects RX1 yX1_copyFrom yX1_copyFrom, Cond.code yX1_copyFrom cX1_copyFrom 2 none, Cond.methodLink RX1 23 arraycopyName, Cond.native arraycopyName, Cond.static arraycopyName, Cond.initialized "java/lang/System", Cond.fieldLink RX1 19 "NamePlate$Names" "number" "I", Cond.methodLink RX4 54 yX2_copyFrom, Cond.instanceMethod yX2_copyFrom, Cond.selects RX2 yX2_copyFrom yX2_copyFrom, Cond.code yX2_copyFrom cX2_copyFrom 2 none]
def wsX6_adjust_r5 : List Cond := [Cond.methodLink RX2 26 arraycopyName, Cond.methodLink RX6 83 yX2_put, Cond.instanceMethod yX2_put, Cond.selects RX2 yX2_put yX2_put, Cond.code yX2_put cX2_put 5 none, Cond.methodLink RX2 36 yX2_placeOf, Cond.methodLink RX2 32 yX2_isPlace, Cond.instanceMethod yX2_isPlace, Cond.selects RX2 yX2_isPlace yX2_isPlace, Cond.code yX2_isPlace cX2_isPlace 2 (some .boolean), Cond.methodLink RX2 40 yX2_takeOut, Cond.instanceMethod yX2_takeOut, Cond.selects RX2 yX2_takeOut yX2_takeOut, Cond.code yX2_takeOut cX2_takeOut 3 none, Cond.methodLink RX2 44 yX2_append, Cond.instanceMethod yX2_append, Cond.selects RX2 yX2_append yX2_append, Cond.code yX2_append cX2_append 4 none]
def wsX6_adjust : List Cond := .code yX6_adjust cX6_adjust 5 (some .int) :: ((wsX6_adjust_r1 ++ (wsX6_adjust_r2 ++ (wsX6_adjust_r3 ++ (wsX6_adjust_r4 ++ wsX6_adjust_r5)))) ++ wsX60 ++ wsX40 ++ wsX10 ++ wsX20 ++ wsX00)
def wsX6_type : List Cond := .code yX6_type cX6_type 2 (some .int) :: ([.fieldLink RX6 29 "NamePlate" "text" "LNamePlate$Text;", .methodLink RX6 87 yX5_isFull, .instanceMethod yX5_isFull, .selects RX5 yX5_isFull yX5_isFull, .initialized RX5, .code yX5_isFull cX5_isFull 1 (some .boolean), .fieldLink RX5 15 "NamePlate$Text" "length" "I", .methodLink RX6 88 yX5_append, .instanceMethod yX5_append, .selects RX5 yX5_append yX5_append, .code yX5_append cX5_append 2 none, .fieldLink RX5 9 "NamePlate$Text" "characters" "[C"] ++ wsX60 ++ wsX50)
def wsX6_clearText : List Cond := .code yX6_clearText cX6_clearText 2 (some .int) :: ([.fieldLink RX6 29 "NamePlate" "text" "LNamePlate$Text;"] ++ wsX60 ++ wsX50)
def wsX6_addNamesOfText : List Cond := .code yX6_addNamesOfText cX6_addNamesOfText 3 none :: ([.fieldLink RX6 10 "NamePlate" "now" "LNamePlate$State;", .fieldLink RX6 29 "NamePlate" "text" "LNamePlate$Text;", .methodLink RX6 114 yX1_begin, .instanceMethod yX1_begin, .selects RX1 yX1_begin yX1_begin, .initialized RX1, .code yX1_begin cX1_begin 1 none, .fieldLink RX1 19 "NamePlate$Names" "number" "I", .fieldLink RX1 15 "NamePlate$Names" "lengths" "[I", .methodLink RX6 117 yX5_characterAt, .instanceMethod yX5_characterAt, .selects RX5 yX5_characterAt yX5_characterAt, .initialized RX5, .code yX5_characterAt cX5_characterAt 2 (some .char), .fieldLink RX5 9 "NamePlate$Text" "characters" "[C", .methodLink RX6 121 yX1_append, .instanceMethod yX1_append, .selects RX1 yX1_append yX1_append, .code yX1_append cX1_append 3 none, .fieldLink RX1 9 "NamePlate$Names" "codes" "[C", .methodLink RX1 29 yX1_isTaken, .instanceMethod yX1_isTaken, .selects RX1 yX1_isTaken yX1_isTaken, .code yX1_isTaken cX1_isTaken 2 (some .boolean)] ++ wsX60 ++ wsX40 ++ wsX50 ++ wsX10)
def wsX6_readNames_r1 : List Cond := [Cond.fieldLink RX6 29 "NamePlate" "text" "LNamePlate$Text;", Cond.fieldLink RX6 10 "NamePlate" "now" "LNamePlate$State;", Cond.fieldLink RX6 22 "NamePlate" "history" "LNamePlate$History;", Cond.methodLink RX6 95 yX5_fault, Cond.instanceMethod yX5_fault, Cond.selects RX5 yX5_fault yX5_fault, Cond.initialized RX5, Cond.code yX5_fault cX5_fault 5 (some .int), Cond.fieldLink RX5 15 "NamePlate$Text" "length" "I", Cond.methodLink RX5 19 yX5_characterAt, Cond.instanceMethod yX5_characterAt, Cond.selects RX5 yX5_characterAt yX5_characterAt, Cond.code yX5_characterAt cX5_characterAt 2 (some .char), Cond.fieldLink RX5 9 "NamePlate$Text" "characters" "[C", Cond.methodLink RX5 23 yX5_isAllowed, Cond.static yX5_isAllowed, Cond.code yX5_isAllowed cX5_isAllowed 3 (some .boolean), Cond.methodLink RX5 27 yX3_isLetter, Cond.static yX3_isLetter, Cond.initialized RX3, Cond.code yX3_isLetter cX3_isLetter 1 (some .boolean), Cond.methodLink RX5 33 yX3_isMark, Cond.static yX3_isMark, Cond.code yX3_isMark cX3_isMark 1 (some .boolean)]
def wsX6_readNames_r2 : List Cond := [Cond.methodLink RX6 99 yX5_namesInIt, Cond.instanceMethod yX5_namesInIt, Cond.selects RX5 yX5_namesInIt yX5_namesInIt, Cond.code yX5_namesInIt cX5_namesInIt 3 (some .int), Cond.methodLink RX6 41 yX0_record, Cond.instanceMethod yX0_record, Cond.selects RX0 yX0_record yX0_record, Cond.initialized RX0, Cond.code yX0_record cX0_record 3 none, Cond.fieldLink RX0 21 "NamePlate$History" "number" "I", Cond.fieldLink RX0 17 "NamePlate$History" "oldest" "I", Cond.methodLink RX0 25 yX0_slotAt, Cond.instanceMethod yX0_slotAt, Cond.selects RX0 yX0_slotAt yX0_slotAt, Cond.code yX0_slotAt cX0_slotAt 3 (some (.object "NamePlate$State")), Cond.fieldLink RX0 11 "NamePlate$History" "states" "[LNamePlate$State;", Cond.methodLink RX0 29 yX4_copyFrom, Cond.instanceMethod yX4_copyFrom, Cond.selects RX4 yX4_copyFrom yX4_copyFrom, Cond.initialized RX4, Cond.code yX4_copyFrom cX4_copyFrom 2 none, Cond.fieldLink RX4 12 "NamePlate$State" "names" "LNamePlate$Names;", Cond.fieldLink RX4 21 "NamePlate$State" "pairs" "LNamePlate$Pairs;", Cond.fieldLink RX4 25 "NamePlate$State" "width" "I"]
def wsX6_readNames_r3 : List Cond := [Cond.fieldLink RX4 29 "NamePlate$State" "height" "I", Cond.fieldLink RX4 32 "NamePlate$State" "margin" "I", Cond.fieldLink RX4 35 "NamePlate$State" "columns" "I", Cond.fieldLink RX4 38 "NamePlate$State" "engraved" "I", Cond.fieldLink RX4 41 "NamePlate$State" "engravedSize" "I", Cond.fieldLink RX4 44 "NamePlate$State" "cuts" "I", Cond.fieldLink RX4 47 "NamePlate$State" "lost" "I", Cond.methodLink RX4 50 yX1_copyFrom, Cond.instanceMethod yX1_copyFrom, Cond.selects RX1 yX1_copyFrom yX1_copyFrom, Cond.initialized RX1, Cond.code yX1_copyFrom cX1_copyFrom 2 none, Cond.fieldLink RX1 9 "NamePlate$Names" "codes" "[C", Cond.methodLink RX1 23 arraycopyName, Cond.native arraycopyName, Cond.static arraycopyName, Cond.initialized "java/lang/System", Cond.fieldLink RX1 15 "NamePlate$Names" "lengths" "[I", Cond.fieldLink RX1 19 "NamePlate$Names" "number" "I", Cond.methodLink RX4 54 yX2_copyFrom, Cond.instanceMethod yX2_copyFrom, Cond.selects RX2 yX2_copyFrom yX2_copyFrom, Cond.initialized RX2, Cond.code yX2_copyFrom cX2_copyFrom 2 none]
def wsX6_readNames_r4 : List Cond := [Cond.fieldLink RX2 9 "NamePlate$Pairs" "lefts" "[C", Cond.methodLink RX2 26 arraycopyName, Cond.fieldLink RX2 15 "NamePlate$Pairs" "rights" "[C", Cond.fieldLink RX2 18 "NamePlate$Pairs" "adjustments" "[I", Cond.fieldLink RX2 22 "NamePlate$Pairs" "number" "I", Cond.methodLink RX6 111 yX6_addNamesOfText, Cond.instanceMethod yX6_addNamesOfText, Cond.selects RX6 yX6_addNamesOfText yX6_addNamesOfText, Cond.initialized RX6, Cond.code yX6_addNamesOfText cX6_addNamesOfText 3 none, Cond.methodLink RX6 114 yX1_begin, Cond.instanceMethod yX1_begin, Cond.selects RX1 yX1_begin yX1_begin, Cond.code yX1_begin cX1_begin 1 none, Cond.methodLink RX6 117 yX5_characterAt, Cond.methodLink RX6 121 yX1_append, Cond.instanceMethod yX1_append, Cond.selects RX1 yX1_append yX1_append, Cond.code yX1_append cX1_append 3 none, Cond.methodLink RX1 29 yX1_isTaken, Cond.instanceMethod yX1_isTaken, Cond.selects RX1 yX1_isTaken yX1_isTaken, Cond.code yX1_isTaken cX1_isTaken 2 (some .boolean)]
def wsX6_readNames : List Cond := .code yX6_readNames cX6_readNames 3 (some .int) :: ((wsX6_readNames_r1 ++ (wsX6_readNames_r2 ++ (wsX6_readNames_r3 ++ wsX6_readNames_r4))) ++ wsX60 ++ wsX40 ++ wsX10 ++ wsX50 ++ wsX00 ++ wsX20)
def wsX6_remove_r1 : List Cond := [Cond.fieldLink RX6 10 "NamePlate" "now" "LNamePlate$State;", Cond.fieldLink RX6 22 "NamePlate" "history" "LNamePlate$History;", Cond.methodLink RX6 122 yX1_isTaken, Cond.instanceMethod yX1_isTaken, Cond.selects RX1 yX1_isTaken yX1_isTaken, Cond.initialized RX1, Cond.code yX1_isTaken cX1_isTaken 2 (some .boolean), Cond.fieldLink RX1 19 "NamePlate$Names" "number" "I", Cond.methodLink RX6 126 yX4_isEngravedFrom, Cond.instanceMethod yX4_isEngravedFrom, Cond.selects RX4 yX4_isEngravedFrom yX4_isEngravedFrom, Cond.initialized RX4, Cond.code yX4_isEngravedFrom cX4_isEngravedFrom 2 (some .boolean), Cond.fieldLink RX4 38 "NamePlate$State" "engraved" "I", Cond.methodLink RX6 41 yX0_record, Cond.instanceMethod yX0_record, Cond.selects RX0 yX0_record yX0_record, Cond.initialized RX0, Cond.code yX0_record cX0_record 3 none, Cond.fieldLink RX0 21 "NamePlate$History" "number" "I", Cond.fieldLink RX0 17 "NamePlate$History" "oldest" "I", Cond.methodLink RX0 25 yX0_slotAt, Cond.instanceMethod yX0_slotAt, Cond.selects RX0 yX0_slotAt yX0_slotAt]
def wsX6_remove_r2 : List Cond := [Cond.code yX0_slotAt cX0_slotAt 3 (some (.object "NamePlate$State")), Cond.fieldLink RX0 11 "NamePlate$History" "states" "[LNamePlate$State;", Cond.methodLink RX0 29 yX4_copyFrom, Cond.instanceMethod yX4_copyFrom, Cond.selects RX4 yX4_copyFrom yX4_copyFrom, Cond.code yX4_copyFrom cX4_copyFrom 2 none, Cond.fieldLink RX4 12 "NamePlate$State" "names" "LNamePlate$Names;", Cond.fieldLink RX4 21 "NamePlate$State" "pairs" "LNamePlate$Pairs;", Cond.fieldLink RX4 25 "NamePlate$State" "width" "I", Cond.fieldLink RX4 29 "NamePlate$State" "height" "I", Cond.fieldLink RX4 32 "NamePlate$State" "margin" "I", Cond.fieldLink RX4 35 "NamePlate$State" "columns" "I", Cond.fieldLink RX4 41 "NamePlate$State" "engravedSize" "I", Cond.fieldLink RX4 44 "NamePlate$State" "cuts" "I", Cond.fieldLink RX4 47 "NamePlate$State" "lost" "I", Cond.methodLink RX4 50 yX1_copyFrom, Cond.instanceMethod yX1_copyFrom, Cond.selects RX1 yX1_copyFrom yX1_copyFrom, Cond.code yX1_copyFrom cX1_copyFrom 2 none, Cond.fieldLink RX1 9 "NamePlate$Names" "codes" "[C", Cond.methodLink RX1 23 arraycopyName, Cond.native arraycopyName, Cond.static arraycopyName, Cond.initialized "java/lang/System"]
def wsX6_remove_r3 : List Cond := [Cond.fieldLink RX1 15 "NamePlate$Names" "lengths" "[I", Cond.methodLink RX4 54 yX2_copyFrom, Cond.instanceMethod yX2_copyFrom, Cond.selects RX2 yX2_copyFrom yX2_copyFrom, Cond.initialized RX2, Cond.code yX2_copyFrom cX2_copyFrom 2 none, Cond.fieldLink RX2 9 "NamePlate$Pairs" "lefts" "[C", Cond.methodLink RX2 26 arraycopyName, Cond.fieldLink RX2 15 "NamePlate$Pairs" "rights" "[C", Cond.fieldLink RX2 18 "NamePlate$Pairs" "adjustments" "[I", Cond.fieldLink RX2 22 "NamePlate$Pairs" "number" "I", Cond.methodLink RX6 129 yX1_takeOut, Cond.instanceMethod yX1_takeOut, Cond.selects RX1 yX1_takeOut yX1_takeOut, Cond.code yX1_takeOut cX1_takeOut 3 none, Cond.methodLink RX1 29 yX1_isTaken, Cond.methodLink RX1 37 yX1_exchange, Cond.instanceMethod yX1_exchange, Cond.selects RX1 yX1_exchange yX1_exchange, Cond.code yX1_exchange cX1_exchange 5 none]
def wsX6_remove : List Cond := .code yX6_remove cX6_remove 2 (some .int) :: ((wsX6_remove_r1 ++ (wsX6_remove_r2 ++ wsX6_remove_r3)) ++ wsX60 ++ wsX40 ++ wsX10 ++ wsX00 ++ wsX20)
def wsX6_swap_r1 : List Cond := [Cond.fieldLink RX6 10 "NamePlate" "now" "LNamePlate$State;", Cond.fieldLink RX6 22 "NamePlate" "history" "LNamePlate$History;", Cond.methodLink RX6 122 yX1_isTaken, Cond.instanceMethod yX1_isTaken, Cond.selects RX1 yX1_isTaken yX1_isTaken, Cond.initialized RX1, Cond.code yX1_isTaken cX1_isTaken 2 (some .boolean), Cond.fieldLink RX1 19 "NamePlate$Names" "number" "I", Cond.methodLink RX6 133 yX4_isEngraved, Cond.instanceMethod yX4_isEngraved, Cond.selects RX4 yX4_isEngraved yX4_isEngraved, Cond.initialized RX4, Cond.code yX4_isEngraved cX4_isEngraved 2 (some .boolean), Cond.fieldLink RX4 38 "NamePlate$State" "engraved" "I", Cond.methodLink RX6 41 yX0_record, Cond.instanceMethod yX0_record, Cond.selects RX0 yX0_record yX0_record, Cond.initialized RX0, Cond.code yX0_record cX0_record 3 none, Cond.fieldLink RX0 21 "NamePlate$History" "number" "I", Cond.fieldLink RX0 17 "NamePlate$History" "oldest" "I", Cond.methodLink RX0 25 yX0_slotAt, Cond.instanceMethod yX0_slotAt, Cond.selects RX0 yX0_slotAt yX0_slotAt]
def wsX6_swap_r2 : List Cond := [Cond.code yX0_slotAt cX0_slotAt 3 (some (.object "NamePlate$State")), Cond.fieldLink RX0 11 "NamePlate$History" "states" "[LNamePlate$State;", Cond.methodLink RX0 29 yX4_copyFrom, Cond.instanceMethod yX4_copyFrom, Cond.selects RX4 yX4_copyFrom yX4_copyFrom, Cond.code yX4_copyFrom cX4_copyFrom 2 none, Cond.fieldLink RX4 12 "NamePlate$State" "names" "LNamePlate$Names;", Cond.fieldLink RX4 21 "NamePlate$State" "pairs" "LNamePlate$Pairs;", Cond.fieldLink RX4 25 "NamePlate$State" "width" "I", Cond.fieldLink RX4 29 "NamePlate$State" "height" "I", Cond.fieldLink RX4 32 "NamePlate$State" "margin" "I", Cond.fieldLink RX4 35 "NamePlate$State" "columns" "I", Cond.fieldLink RX4 41 "NamePlate$State" "engravedSize" "I", Cond.fieldLink RX4 44 "NamePlate$State" "cuts" "I", Cond.fieldLink RX4 47 "NamePlate$State" "lost" "I", Cond.methodLink RX4 50 yX1_copyFrom, Cond.instanceMethod yX1_copyFrom, Cond.selects RX1 yX1_copyFrom yX1_copyFrom, Cond.code yX1_copyFrom cX1_copyFrom 2 none, Cond.fieldLink RX1 9 "NamePlate$Names" "codes" "[C", Cond.methodLink RX1 23 arraycopyName, Cond.native arraycopyName, Cond.static arraycopyName, Cond.initialized "java/lang/System"]
def wsX6_swap_r3 : List Cond := [Cond.fieldLink RX1 15 "NamePlate$Names" "lengths" "[I", Cond.methodLink RX4 54 yX2_copyFrom, Cond.instanceMethod yX2_copyFrom, Cond.selects RX2 yX2_copyFrom yX2_copyFrom, Cond.initialized RX2, Cond.code yX2_copyFrom cX2_copyFrom 2 none, Cond.fieldLink RX2 9 "NamePlate$Pairs" "lefts" "[C", Cond.methodLink RX2 26 arraycopyName, Cond.fieldLink RX2 15 "NamePlate$Pairs" "rights" "[C", Cond.fieldLink RX2 18 "NamePlate$Pairs" "adjustments" "[I", Cond.fieldLink RX2 22 "NamePlate$Pairs" "number" "I", Cond.methodLink RX6 136 yX1_exchange, Cond.instanceMethod yX1_exchange, Cond.selects RX1 yX1_exchange yX1_exchange, Cond.code yX1_exchange cX1_exchange 5 none, Cond.methodLink RX1 29 yX1_isTaken, Cond.methodLink RX6 140 yX4_sizeNow, Cond.instanceMethod yX4_sizeNow, Cond.selects RX4 yX4_sizeNow yX4_sizeNow, Cond.code yX4_sizeNow cX4_sizeNow 1 (some .int), Cond.methodLink RX4 134 yX4_hasEngraved, Cond.instanceMethod yX4_hasEngraved, Cond.selects RX4 yX4_hasEngraved yX4_hasEngraved, Cond.code yX4_hasEngraved cX4_hasEngraved 1 (some .boolean)]
def wsX6_swap_r4 : List Cond := [Cond.methodLink RX4 138 yX4_mostUnits, Cond.instanceMethod yX4_mostUnits, Cond.selects RX4 yX4_mostUnits yX4_mostUnits, Cond.code yX4_mostUnits cX4_mostUnits 4 (some .int), Cond.methodLink RX4 102 Lib.Math.max.name, Cond.static Lib.Math.max.name, Cond.initialized "java/lang/Math", Cond.code Lib.Math.max.name Lib.Math.max.code 2 (some .int), Cond.methodLink RX4 119 yX4_unitsOf, Cond.instanceMethod yX4_unitsOf, Cond.selects RX4 yX4_unitsOf yX4_unitsOf, Cond.code yX4_unitsOf cX4_unitsOf 2 (some .int), Cond.methodLink RX4 82 yX1_lengthOf, Cond.instanceMethod yX1_lengthOf, Cond.selects RX1 yX1_lengthOf yX1_lengthOf, Cond.code yX1_lengthOf cX1_lengthOf 2 (some .int), Cond.methodLink RX4 113 yX4_unitsBefore, Cond.instanceMethod yX4_unitsBefore, Cond.selects RX4 yX4_unitsBefore yX4_unitsBefore, Cond.code yX4_unitsBefore cX4_unitsBefore 5 (some .int), Cond.methodLink RX4 85 yX1_codeAt, Cond.instanceMethod yX1_codeAt, Cond.selects RX1 yX1_codeAt yX1_codeAt, Cond.code yX1_codeAt cX1_codeAt 4 (some .char)]
def wsX6_swap_r5 : List Cond := [Cond.methodLink RX4 111 yX3_width, Cond.static yX3_width, Cond.initialized RX3, Cond.code yX3_width cX3_width 1 (some .int), Cond.methodLink RX4 108 yX4_spaceBehind, Cond.instanceMethod yX4_spaceBehind, Cond.selects RX4 yX4_spaceBehind yX4_spaceBehind, Cond.code yX4_spaceBehind cX4_spaceBehind 6 (some .int), Cond.methodLink RX4 89 yX2_placeOf, Cond.instanceMethod yX2_placeOf, Cond.selects RX2 yX2_placeOf yX2_placeOf, Cond.code yX2_placeOf cX2_placeOf 4 (some .int), Cond.methodLink RX4 93 yX2_adjustmentAt, Cond.instanceMethod yX2_adjustmentAt, Cond.selects RX2 yX2_adjustmentAt yX2_adjustmentAt, Cond.code yX2_adjustmentAt cX2_adjustmentAt 2 (some .int), Cond.methodLink RX4 96 yX3_openness, Cond.static yX3_openness, Cond.code yX3_openness cX3_openness 1 (some .int), Cond.methodLink RX4 141 yX4_greatestSize, Cond.instanceMethod yX4_greatestSize, Cond.selects RX4 yX4_greatestSize yX4_greatestSize, Cond.code yX4_greatestSize cX4_greatestSize 7 (some .int), Cond.methodLink RX4 145 yX4_rowsFor]
def wsX6_swap_r6 : List Cond := [Cond.instanceMethod yX4_rowsFor, Cond.selects RX4 yX4_rowsFor yX4_rowsFor, Cond.code yX4_rowsFor cX4_rowsFor 2 (some .int), Cond.methodLink RX4 122 yX4_quotient, Cond.static yX4_quotient, Cond.code yX4_quotient cX4_quotient 2 (some .int), Cond.methodLink RX4 160 yJ9_floorDiv_7cf53, Cond.static yJ9_floorDiv_7cf53, Cond.initialized RJ9, Cond.code yJ9_floorDiv_7cf53 cJ9_floorDiv_7cf53 3 (some .int), Cond.methodLink RX4 131 yX4_columnWidth, Cond.instanceMethod yX4_columnWidth, Cond.selects RX4 yX4_columnWidth yX4_columnWidth, Cond.code yX4_columnWidth cX4_columnWidth 2 (some .int)]
def wsX6_swap : List Cond := .code yX6_swap cX6_swap 3 (some .int) :: ((wsX6_swap_r1 ++ (wsX6_swap_r2 ++ (wsX6_swap_r3 ++ (wsX6_swap_r4 ++ (wsX6_swap_r5 ++ wsX6_swap_r6))))) ++ wsX60 ++ wsX40 ++ wsX10 ++ wsX00 ++ wsX20)
def wsX6_engrave_r1 : List Cond := [Cond.fieldLink RX6 10 "NamePlate" "now" "LNamePlate$State;", Cond.fieldLink RX6 22 "NamePlate" "history" "LNamePlate$History;", Cond.methodLink RX6 122 yX1_isTaken, Cond.instanceMethod yX1_isTaken, Cond.selects RX1 yX1_isTaken yX1_isTaken, Cond.initialized RX1, Cond.code yX1_isTaken cX1_isTaken 2 (some .boolean), Cond.fieldLink RX1 19 "NamePlate$Names" "number" "I", Cond.methodLink RX6 140 yX4_sizeNow, Cond.instanceMethod yX4_sizeNow, Cond.selects RX4 yX4_sizeNow yX4_sizeNow, Cond.initialized RX4, Cond.code yX4_sizeNow cX4_sizeNow 1 (some .int), Cond.fieldLink RX4 41 "NamePlate$State" "engravedSize" "I", Cond.fieldLink RX4 25 "NamePlate$State" "width" "I", Cond.fieldLink RX4 29 "NamePlate$State" "height" "I", Cond.fieldLink RX4 12 "NamePlate$State" "names" "LNamePlate$Names;", Cond.methodLink RX4 134 yX4_hasEngraved, Cond.instanceMethod yX4_hasEngraved, Cond.selects RX4 yX4_hasEngraved yX4_hasEngraved, Cond.code yX4_hasEngraved cX4_hasEngraved 1 (some .boolean), Cond.fieldLink RX4 38 "NamePlate$State" "engraved" "I", Cond.methodLink RX4 138 yX4_mostUnits, Cond.instanceMethod yX4_mostUnits]
def wsX6_engrave_r2 : List Cond := [Cond.selects RX4 yX4_mostUnits yX4_mostUnits, Cond.code yX4_mostUnits cX4_mostUnits 4 (some .int), Cond.methodLink RX4 102 Lib.Math.max.name, Cond.static Lib.Math.max.name, Cond.initialized "java/lang/Math", Cond.code Lib.Math.max.name Lib.Math.max.code 2 (some .int), Cond.methodLink RX4 119 yX4_unitsOf, Cond.instanceMethod yX4_unitsOf, Cond.selects RX4 yX4_unitsOf yX4_unitsOf, Cond.code yX4_unitsOf cX4_unitsOf 2 (some .int), Cond.methodLink RX4 82 yX1_lengthOf, Cond.instanceMethod yX1_lengthOf, Cond.selects RX1 yX1_lengthOf yX1_lengthOf, Cond.code yX1_lengthOf cX1_lengthOf 2 (some .int), Cond.fieldLink RX1 15 "NamePlate$Names" "lengths" "[I", Cond.methodLink RX4 113 yX4_unitsBefore, Cond.instanceMethod yX4_unitsBefore, Cond.selects RX4 yX4_unitsBefore yX4_unitsBefore, Cond.code yX4_unitsBefore cX4_unitsBefore 5 (some .int), Cond.methodLink RX4 85 yX1_codeAt, Cond.instanceMethod yX1_codeAt, Cond.selects RX1 yX1_codeAt yX1_codeAt, Cond.code yX1_codeAt cX1_codeAt 4 (some .char), Cond.fieldLink RX1 9 "NamePlate$Names" "codes" "[C"]
def wsX6_engrave_r3 : List Cond := [Cond.methodLink RX4 111 yX3_width, Cond.static yX3_width, Cond.initialized RX3, Cond.code yX3_width cX3_width 1 (some .int), Cond.methodLink RX4 108 yX4_spaceBehind, Cond.instanceMethod yX4_spaceBehind, Cond.selects RX4 yX4_spaceBehind yX4_spaceBehind, Cond.code yX4_spaceBehind cX4_spaceBehind 6 (some .int), Cond.fieldLink RX4 21 "NamePlate$State" "pairs" "LNamePlate$Pairs;", Cond.methodLink RX4 89 yX2_placeOf, Cond.instanceMethod yX2_placeOf, Cond.selects RX2 yX2_placeOf yX2_placeOf, Cond.initialized RX2, Cond.code yX2_placeOf cX2_placeOf 4 (some .int), Cond.fieldLink RX2 22 "NamePlate$Pairs" "number" "I", Cond.fieldLink RX2 9 "NamePlate$Pairs" "lefts" "[C", Cond.fieldLink RX2 15 "NamePlate$Pairs" "rights" "[C", Cond.methodLink RX4 93 yX2_adjustmentAt, Cond.instanceMethod yX2_adjustmentAt, Cond.selects RX2 yX2_adjustmentAt yX2_adjustmentAt, Cond.code yX2_adjustmentAt cX2_adjustmentAt 2 (some .int), Cond.fieldLink RX2 18 "NamePlate$Pairs" "adjustments" "[I", Cond.methodLink RX4 96 yX3_openness, Cond.static yX3_openness]
def wsX6_engrave_r4 : List Cond := [Cond.code yX3_openness cX3_openness 1 (some .int), Cond.methodLink RX4 141 yX4_greatestSize, Cond.instanceMethod yX4_greatestSize, Cond.selects RX4 yX4_greatestSize yX4_greatestSize, Cond.code yX4_greatestSize cX4_greatestSize 7 (some .int), Cond.fieldLink RX4 32 "NamePlate$State" "margin" "I", Cond.methodLink RX4 145 yX4_rowsFor, Cond.instanceMethod yX4_rowsFor, Cond.selects RX4 yX4_rowsFor yX4_rowsFor, Cond.code yX4_rowsFor cX4_rowsFor 2 (some .int), Cond.fieldLink RX4 35 "NamePlate$State" "columns" "I", Cond.methodLink RX4 122 yX4_quotient, Cond.static yX4_quotient, Cond.code yX4_quotient cX4_quotient 2 (some .int), Cond.methodLink RX4 160 yJ9_floorDiv_7cf53, Cond.static yJ9_floorDiv_7cf53, Cond.initialized RJ9, Cond.code yJ9_floorDiv_7cf53 cJ9_floorDiv_7cf53 3 (some .int), Cond.methodLink RX4 131 yX4_columnWidth, Cond.instanceMethod yX4_columnWidth, Cond.selects RX4 yX4_columnWidth yX4_columnWidth, Cond.code yX4_columnWidth cX4_columnWidth 2 (some .int), Cond.methodLink RX6 143 yX4_fits, Cond.instanceMethod yX4_fits]
def wsX6_engrave_r5 : List Cond := [Cond.selects RX4 yX4_fits yX4_fits, Cond.code yX4_fits cX4_fits 3 (some .boolean), Cond.methodLink RX4 125 yX4_rowOf, Cond.instanceMethod yX4_rowOf, Cond.selects RX4 yX4_rowOf yX4_rowOf, Cond.code yX4_rowOf cX4_rowOf 2 (some .int), Cond.methodLink RX6 133 yX4_isEngraved, Cond.instanceMethod yX4_isEngraved, Cond.selects RX4 yX4_isEngraved yX4_isEngraved, Cond.code yX4_isEngraved cX4_isEngraved 2 (some .boolean), Cond.methodLink RX6 41 yX0_record, Cond.instanceMethod yX0_record, Cond.selects RX0 yX0_record yX0_record, Cond.initialized RX0, Cond.code yX0_record cX0_record 3 none, Cond.fieldLink RX0 21 "NamePlate$History" "number" "I", Cond.fieldLink RX0 17 "NamePlate$History" "oldest" "I", Cond.methodLink RX0 25 yX0_slotAt, Cond.instanceMethod yX0_slotAt, Cond.selects RX0 yX0_slotAt yX0_slotAt, Cond.code yX0_slotAt cX0_slotAt 3 (some (.object "NamePlate$State")), Cond.fieldLink RX0 11 "NamePlate$History" "states" "[LNamePlate$State;", Cond.methodLink RX0 29 yX4_copyFrom, Cond.instanceMethod yX4_copyFrom]
def wsX6_engrave_r6 : List Cond := [Cond.selects RX4 yX4_copyFrom yX4_copyFrom, Cond.code yX4_copyFrom cX4_copyFrom 2 none, Cond.fieldLink RX4 44 "NamePlate$State" "cuts" "I", Cond.fieldLink RX4 47 "NamePlate$State" "lost" "I", Cond.methodLink RX4 50 yX1_copyFrom, Cond.instanceMethod yX1_copyFrom, Cond.selects RX1 yX1_copyFrom yX1_copyFrom, Cond.code yX1_copyFrom cX1_copyFrom 2 none, Cond.methodLink RX1 23 arraycopyName, Cond.native arraycopyName, Cond.static arraycopyName, Cond.initialized "java/lang/System", Cond.methodLink RX4 54 yX2_copyFrom, Cond.instanceMethod yX2_copyFrom, Cond.selects RX2 yX2_copyFrom yX2_copyFrom, Cond.code yX2_copyFrom cX2_copyFrom 2 none, Cond.methodLink RX2 26 arraycopyName, Cond.methodLink RX6 146 yX4_markEngraved, Cond.instanceMethod yX4_markEngraved, Cond.selects RX4 yX4_markEngraved yX4_markEngraved, Cond.code yX4_markEngraved cX4_markEngraved 3 none, Cond.methodLink RX6 149 yX4_beginOf, Cond.instanceMethod yX4_beginOf, Cond.selects RX4 yX4_beginOf yX4_beginOf]
def wsX6_engrave_r7 : List Cond := [Cond.code yX4_beginOf cX4_beginOf 9 (some .int), Cond.methodLink RX4 157 Lib.Math.min.name, Cond.static Lib.Math.min.name, Cond.code Lib.Math.min.name Lib.Math.min.code 2 (some .int), Cond.methodLink RX4 148 yX4_columnBegin, Cond.instanceMethod yX4_columnBegin, Cond.selects RX4 yX4_columnBegin yX4_columnBegin, Cond.code yX4_columnBegin cX4_columnBegin 2 (some .int), Cond.methodLink RX4 128 yX4_columnOf, Cond.instanceMethod yX4_columnOf, Cond.selects RX4 yX4_columnOf yX4_columnOf, Cond.code yX4_columnOf cX4_columnOf 2 (some .int), Cond.methodLink RX4 151 yX4_inkOf, Cond.instanceMethod yX4_inkOf, Cond.selects RX4 yX4_inkOf yX4_inkOf, Cond.code yX4_inkOf cX4_inkOf 4 (some .int), Cond.methodLink RX4 116 yX3_ink, Cond.static yX3_ink, Cond.code yX3_ink cX3_ink 1 (some .int), Cond.methodLink RX4 154 yX4_twiceInkMoment, Cond.instanceMethod yX4_twiceInkMoment, Cond.selects RX4 yX4_twiceInkMoment yX4_twiceInkMoment, Cond.code yX4_twiceInkMoment cX4_twiceInkMoment 7 (some .int)]
def wsX6_engrave : List Cond := .code yX6_engrave cX6_engrave 3 (some .int) :: ((wsX6_engrave_r1 ++ (wsX6_engrave_r2 ++ (wsX6_engrave_r3 ++ (wsX6_engrave_r4 ++ (wsX6_engrave_r5 ++ (wsX6_engrave_r6 ++ wsX6_engrave_r7)))))) ++ wsX60 ++ wsX40 ++ wsX10 ++ wsX20 ++ wsX00)
def wsX6_engraveAll_r1 : List Cond := [Cond.fieldLink RX6 10 "NamePlate" "now" "LNamePlate$State;", Cond.fieldLink RX6 22 "NamePlate" "history" "LNamePlate$History;", Cond.methodLink RX6 140 yX4_sizeNow, Cond.instanceMethod yX4_sizeNow, Cond.selects RX4 yX4_sizeNow yX4_sizeNow, Cond.initialized RX4, Cond.code yX4_sizeNow cX4_sizeNow 1 (some .int), Cond.fieldLink RX4 41 "NamePlate$State" "engravedSize" "I", Cond.fieldLink RX4 25 "NamePlate$State" "width" "I", Cond.fieldLink RX4 29 "NamePlate$State" "height" "I", Cond.fieldLink RX4 12 "NamePlate$State" "names" "LNamePlate$Names;", Cond.methodLink RX4 134 yX4_hasEngraved, Cond.instanceMethod yX4_hasEngraved, Cond.selects RX4 yX4_hasEngraved yX4_hasEngraved, Cond.code yX4_hasEngraved cX4_hasEngraved 1 (some .boolean), Cond.fieldLink RX4 38 "NamePlate$State" "engraved" "I", Cond.methodLink RX4 138 yX4_mostUnits, Cond.instanceMethod yX4_mostUnits, Cond.selects RX4 yX4_mostUnits yX4_mostUnits, Cond.code yX4_mostUnits cX4_mostUnits 4 (some .int), Cond.methodLink RX4 102 Lib.Math.max.name, Cond.static Lib.Math.max.name, Cond.initialized "java/lang/Math", Cond.code Lib.Math.max.name Lib.Math.max.code 2 (some .int)]
def wsX6_engraveAll_r2 : List Cond := [Cond.methodLink RX4 119 yX4_unitsOf, Cond.instanceMethod yX4_unitsOf, Cond.selects RX4 yX4_unitsOf yX4_unitsOf, Cond.code yX4_unitsOf cX4_unitsOf 2 (some .int), Cond.methodLink RX4 82 yX1_lengthOf, Cond.instanceMethod yX1_lengthOf, Cond.selects RX1 yX1_lengthOf yX1_lengthOf, Cond.initialized RX1, Cond.code yX1_lengthOf cX1_lengthOf 2 (some .int), Cond.fieldLink RX1 15 "NamePlate$Names" "lengths" "[I", Cond.methodLink RX4 113 yX4_unitsBefore, Cond.instanceMethod yX4_unitsBefore, Cond.selects RX4 yX4_unitsBefore yX4_unitsBefore, Cond.code yX4_unitsBefore cX4_unitsBefore 5 (some .int), Cond.methodLink RX4 85 yX1_codeAt, Cond.instanceMethod yX1_codeAt, Cond.selects RX1 yX1_codeAt yX1_codeAt, Cond.code yX1_codeAt cX1_codeAt 4 (some .char), Cond.fieldLink RX1 9 "NamePlate$Names" "codes" "[C", Cond.methodLink RX4 111 yX3_width, Cond.static yX3_width, Cond.initialized RX3, Cond.code yX3_width cX3_width 1 (some .int), Cond.methodLink RX4 108 yX4_spaceBehind]
def wsX6_engraveAll_r3 : List Cond := [Cond.instanceMethod yX4_spaceBehind, Cond.selects RX4 yX4_spaceBehind yX4_spaceBehind, Cond.code yX4_spaceBehind cX4_spaceBehind 6 (some .int), Cond.fieldLink RX4 21 "NamePlate$State" "pairs" "LNamePlate$Pairs;", Cond.methodLink RX4 89 yX2_placeOf, Cond.instanceMethod yX2_placeOf, Cond.selects RX2 yX2_placeOf yX2_placeOf, Cond.initialized RX2, Cond.code yX2_placeOf cX2_placeOf 4 (some .int), Cond.fieldLink RX2 22 "NamePlate$Pairs" "number" "I", Cond.fieldLink RX2 9 "NamePlate$Pairs" "lefts" "[C", Cond.fieldLink RX2 15 "NamePlate$Pairs" "rights" "[C", Cond.methodLink RX4 93 yX2_adjustmentAt, Cond.instanceMethod yX2_adjustmentAt, Cond.selects RX2 yX2_adjustmentAt yX2_adjustmentAt, Cond.code yX2_adjustmentAt cX2_adjustmentAt 2 (some .int), Cond.fieldLink RX2 18 "NamePlate$Pairs" "adjustments" "[I", Cond.methodLink RX4 96 yX3_openness, Cond.static yX3_openness, Cond.code yX3_openness cX3_openness 1 (some .int), Cond.methodLink RX4 141 yX4_greatestSize, Cond.instanceMethod yX4_greatestSize, Cond.selects RX4 yX4_greatestSize yX4_greatestSize, Cond.code yX4_greatestSize cX4_greatestSize 7 (some .int)]
def wsX6_engraveAll_r4 : List Cond := [Cond.fieldLink RX4 32 "NamePlate$State" "margin" "I", Cond.methodLink RX4 145 yX4_rowsFor, Cond.instanceMethod yX4_rowsFor, Cond.selects RX4 yX4_rowsFor yX4_rowsFor, Cond.code yX4_rowsFor cX4_rowsFor 2 (some .int), Cond.fieldLink RX4 35 "NamePlate$State" "columns" "I", Cond.methodLink RX4 122 yX4_quotient, Cond.static yX4_quotient, Cond.code yX4_quotient cX4_quotient 2 (some .int), Cond.methodLink RX4 160 yJ9_floorDiv_7cf53, Cond.static yJ9_floorDiv_7cf53, Cond.initialized RJ9, Cond.code yJ9_floorDiv_7cf53 cJ9_floorDiv_7cf53 3 (some .int), Cond.methodLink RX4 131 yX4_columnWidth, Cond.instanceMethod yX4_columnWidth, Cond.selects RX4 yX4_columnWidth yX4_columnWidth, Cond.code yX4_columnWidth cX4_columnWidth 2 (some .int), Cond.methodLink RX6 152 yX4_engravableSeats, Cond.instanceMethod yX4_engravableSeats, Cond.selects RX4 yX4_engravableSeats yX4_engravableSeats, Cond.code yX4_engravableSeats cX4_engravableSeats 4 (some .int), Cond.methodLink RX4 70 yX4_isEngraved, Cond.instanceMethod yX4_isEngraved, Cond.selects RX4 yX4_isEngraved yX4_isEngraved]
def wsX6_engraveAll_r5 : List Cond := [Cond.code yX4_isEngraved cX4_isEngraved 2 (some .boolean), Cond.methodLink RX4 74 yX4_fits, Cond.instanceMethod yX4_fits, Cond.selects RX4 yX4_fits yX4_fits, Cond.code yX4_fits cX4_fits 3 (some .boolean), Cond.methodLink RX4 125 yX4_rowOf, Cond.instanceMethod yX4_rowOf, Cond.selects RX4 yX4_rowOf yX4_rowOf, Cond.code yX4_rowOf cX4_rowOf 2 (some .int), Cond.methodLink RX6 41 yX0_record, Cond.instanceMethod yX0_record, Cond.selects RX0 yX0_record yX0_record, Cond.initialized RX0, Cond.code yX0_record cX0_record 3 none, Cond.fieldLink RX0 21 "NamePlate$History" "number" "I", Cond.fieldLink RX0 17 "NamePlate$History" "oldest" "I", Cond.methodLink RX0 25 yX0_slotAt, Cond.instanceMethod yX0_slotAt, Cond.selects RX0 yX0_slotAt yX0_slotAt, Cond.code yX0_slotAt cX0_slotAt 3 (some (.object "NamePlate$State")), Cond.fieldLink RX0 11 "NamePlate$History" "states" "[LNamePlate$State;", Cond.methodLink RX0 29 yX4_copyFrom, Cond.instanceMethod yX4_copyFrom, Cond.selects RX4 yX4_copyFrom yX4_copyFrom]
def wsX6_engraveAll_r6 : List Cond := [Cond.code yX4_copyFrom cX4_copyFrom 2 none, Cond.fieldLink RX4 44 "NamePlate$State" "cuts" "I", Cond.fieldLink RX4 47 "NamePlate$State" "lost" "I", Cond.methodLink RX4 50 yX1_copyFrom, Cond.instanceMethod yX1_copyFrom, Cond.selects RX1 yX1_copyFrom yX1_copyFrom, Cond.code yX1_copyFrom cX1_copyFrom 2 none, Cond.methodLink RX1 23 arraycopyName, Cond.native arraycopyName, Cond.static arraycopyName, Cond.initialized "java/lang/System", Cond.fieldLink RX1 19 "NamePlate$Names" "number" "I", Cond.methodLink RX4 54 yX2_copyFrom, Cond.instanceMethod yX2_copyFrom, Cond.selects RX2 yX2_copyFrom yX2_copyFrom, Cond.code yX2_copyFrom cX2_copyFrom 2 none, Cond.methodLink RX2 26 arraycopyName, Cond.methodLink RX6 146 yX4_markEngraved, Cond.instanceMethod yX4_markEngraved, Cond.selects RX4 yX4_markEngraved yX4_markEngraved, Cond.code yX4_markEngraved cX4_markEngraved 3 none, Cond.methodLink RX6 156 yJ6_bitCount_0f7a4, Cond.static yJ6_bitCount_0f7a4, Cond.initialized RJ6]
def wsX6_engraveAll_r7 : List Cond := [Cond.code yJ6_bitCount_0f7a4 cJ6_bitCount_0f7a4 1 (some .int), Cond.constant RJ6 265 (1431655765), Cond.constant RJ6 266 (858993459), Cond.constant RJ6 267 (252645135)]
def wsX6_engraveAll : List Cond := .code yX6_engraveAll cX6_engraveAll 3 (some .int) :: ((wsX6_engraveAll_r1 ++ (wsX6_engraveAll_r2 ++ (wsX6_engraveAll_r3 ++ (wsX6_engraveAll_r4 ++ (wsX6_engraveAll_r5 ++ (wsX6_engraveAll_r6 ++ wsX6_engraveAll_r7)))))) ++ wsX60 ++ wsX40 ++ wsX10 ++ wsX20 ++ wsX00)
def wsX6_undo_r1 : List Cond := [Cond.fieldLink RX6 22 "NamePlate" "history" "LNamePlate$History;", Cond.fieldLink RX6 10 "NamePlate" "now" "LNamePlate$State;", Cond.methodLink RX6 162 yX0_takeLatest, Cond.instanceMethod yX0_takeLatest, Cond.selects RX0 yX0_takeLatest yX0_takeLatest, Cond.initialized RX0, Cond.code yX0_takeLatest cX0_takeLatest 3 none, Cond.fieldLink RX0 21 "NamePlate$History" "number" "I", Cond.methodLink RX0 25 yX0_slotAt, Cond.instanceMethod yX0_slotAt, Cond.selects RX0 yX0_slotAt yX0_slotAt, Cond.code yX0_slotAt cX0_slotAt 3 (some (.object "NamePlate$State")), Cond.fieldLink RX0 17 "NamePlate$History" "oldest" "I", Cond.fieldLink RX0 11 "NamePlate$History" "states" "[LNamePlate$State;", Cond.methodLink RX0 29 yX4_copyFrom, Cond.instanceMethod yX4_copyFrom, Cond.selects RX4 yX4_copyFrom yX4_copyFrom, Cond.initialized RX4, Cond.code yX4_copyFrom cX4_copyFrom 2 none, Cond.fieldLink RX4 12 "NamePlate$State" "names" "LNamePlate$Names;", Cond.fieldLink RX4 21 "NamePlate$State" "pairs" "LNamePlate$Pairs;", Cond.fieldLink RX4 25 "NamePlate$State" "width" "I", Cond.fieldLink RX4 29 "NamePlate$State" "height" "I", Cond.fieldLink RX4 32 "NamePlate$State" "margin" "I"]
def wsX6_undo_r2 : List Cond := [Cond.fieldLink RX4 35 "NamePlate$State" "columns" "I", Cond.fieldLink RX4 38 "NamePlate$State" "engraved" "I", Cond.fieldLink RX4 41 "NamePlate$State" "engravedSize" "I", Cond.fieldLink RX4 44 "NamePlate$State" "cuts" "I", Cond.fieldLink RX4 47 "NamePlate$State" "lost" "I", Cond.methodLink RX4 50 yX1_copyFrom, Cond.instanceMethod yX1_copyFrom, Cond.selects RX1 yX1_copyFrom yX1_copyFrom, Cond.initialized RX1, Cond.code yX1_copyFrom cX1_copyFrom 2 none, Cond.fieldLink RX1 9 "NamePlate$Names" "codes" "[C", Cond.methodLink RX1 23 arraycopyName, Cond.native arraycopyName, Cond.static arraycopyName, Cond.initialized "java/lang/System", Cond.fieldLink RX1 15 "NamePlate$Names" "lengths" "[I", Cond.fieldLink RX1 19 "NamePlate$Names" "number" "I", Cond.methodLink RX4 54 yX2_copyFrom, Cond.instanceMethod yX2_copyFrom, Cond.selects RX2 yX2_copyFrom yX2_copyFrom, Cond.initialized RX2, Cond.code yX2_copyFrom cX2_copyFrom 2 none, Cond.fieldLink RX2 9 "NamePlate$Pairs" "lefts" "[C", Cond.methodLink RX2 26 arraycopyName]
def wsX6_undo_r3 : List Cond := [Cond.fieldLink RX2 15 "NamePlate$Pairs" "rights" "[C", Cond.fieldLink RX2 18 "NamePlate$Pairs" "adjustments" "[I", Cond.fieldLink RX2 22 "NamePlate$Pairs" "number" "I"]
def wsX6_undo : List Cond := .code yX6_undo cX6_undo 1 (some .int) :: ((wsX6_undo_r1 ++ (wsX6_undo_r2 ++ wsX6_undo_r3)) ++ wsX60 ++ wsX00 ++ wsX40 ++ wsX10 ++ wsX20)
def wsX6_keep_r1 : List Cond := [Cond.fieldLink RX6 16 "NamePlate" "snapshot" "LNamePlate$State;", Cond.fieldLink RX6 10 "NamePlate" "now" "LNamePlate$State;", Cond.fieldLink RX6 33 "NamePlate" "hasSnapshot" "Z", Cond.methodLink RX6 165 yX4_copyFrom, Cond.instanceMethod yX4_copyFrom, Cond.selects RX4 yX4_copyFrom yX4_copyFrom, Cond.initialized RX4, Cond.code yX4_copyFrom cX4_copyFrom 2 none, Cond.fieldLink RX4 12 "NamePlate$State" "names" "LNamePlate$Names;", Cond.fieldLink RX4 21 "NamePlate$State" "pairs" "LNamePlate$Pairs;", Cond.fieldLink RX4 25 "NamePlate$State" "width" "I", Cond.fieldLink RX4 29 "NamePlate$State" "height" "I", Cond.fieldLink RX4 32 "NamePlate$State" "margin" "I", Cond.fieldLink RX4 35 "NamePlate$State" "columns" "I", Cond.fieldLink RX4 38 "NamePlate$State" "engraved" "I", Cond.fieldLink RX4 41 "NamePlate$State" "engravedSize" "I", Cond.fieldLink RX4 44 "NamePlate$State" "cuts" "I", Cond.fieldLink RX4 47 "NamePlate$State" "lost" "I", Cond.methodLink RX4 50 yX1_copyFrom, Cond.instanceMethod yX1_copyFrom, Cond.selects RX1 yX1_copyFrom yX1_copyFrom, Cond.initialized RX1, Cond.code yX1_copyFrom cX1_copyFrom 2 none, Cond.fieldLink RX1 9 "NamePlate$Names" "codes" "[C"]
def wsX6_keep_r2 : List Cond := [Cond.methodLink RX1 23 arraycopyName, Cond.native arraycopyName, Cond.static arraycopyName, Cond.initialized "java/lang/System", Cond.fieldLink RX1 15 "NamePlate$Names" "lengths" "[I", Cond.fieldLink RX1 19 "NamePlate$Names" "number" "I", Cond.methodLink RX4 54 yX2_copyFrom, Cond.instanceMethod yX2_copyFrom, Cond.selects RX2 yX2_copyFrom yX2_copyFrom, Cond.initialized RX2, Cond.code yX2_copyFrom cX2_copyFrom 2 none, Cond.fieldLink RX2 9 "NamePlate$Pairs" "lefts" "[C", Cond.methodLink RX2 26 arraycopyName, Cond.fieldLink RX2 15 "NamePlate$Pairs" "rights" "[C", Cond.fieldLink RX2 18 "NamePlate$Pairs" "adjustments" "[I", Cond.fieldLink RX2 22 "NamePlate$Pairs" "number" "I"]
def wsX6_keep : List Cond := .code yX6_keep cX6_keep 1 (some .int) :: ((wsX6_keep_r1 ++ wsX6_keep_r2) ++ wsX60 ++ wsX40 ++ wsX10 ++ wsX20)
def wsX6_restore_r1 : List Cond := [Cond.fieldLink RX6 33 "NamePlate" "hasSnapshot" "Z", Cond.fieldLink RX6 22 "NamePlate" "history" "LNamePlate$History;", Cond.fieldLink RX6 10 "NamePlate" "now" "LNamePlate$State;", Cond.fieldLink RX6 16 "NamePlate" "snapshot" "LNamePlate$State;", Cond.methodLink RX6 41 yX0_record, Cond.instanceMethod yX0_record, Cond.selects RX0 yX0_record yX0_record, Cond.initialized RX0, Cond.code yX0_record cX0_record 3 none, Cond.fieldLink RX0 21 "NamePlate$History" "number" "I", Cond.fieldLink RX0 17 "NamePlate$History" "oldest" "I", Cond.methodLink RX0 25 yX0_slotAt, Cond.instanceMethod yX0_slotAt, Cond.selects RX0 yX0_slotAt yX0_slotAt, Cond.code yX0_slotAt cX0_slotAt 3 (some (.object "NamePlate$State")), Cond.fieldLink RX0 11 "NamePlate$History" "states" "[LNamePlate$State;", Cond.methodLink RX0 29 yX4_copyFrom, Cond.instanceMethod yX4_copyFrom, Cond.selects RX4 yX4_copyFrom yX4_copyFrom, Cond.initialized RX4, Cond.code yX4_copyFrom cX4_copyFrom 2 none, Cond.fieldLink RX4 12 "NamePlate$State" "names" "LNamePlate$Names;", Cond.fieldLink RX4 21 "NamePlate$State" "pairs" "LNamePlate$Pairs;", Cond.fieldLink RX4 25 "NamePlate$State" "width" "I"]
def wsX6_restore_r2 : List Cond := [Cond.fieldLink RX4 29 "NamePlate$State" "height" "I", Cond.fieldLink RX4 32 "NamePlate$State" "margin" "I", Cond.fieldLink RX4 35 "NamePlate$State" "columns" "I", Cond.fieldLink RX4 38 "NamePlate$State" "engraved" "I", Cond.fieldLink RX4 41 "NamePlate$State" "engravedSize" "I", Cond.fieldLink RX4 44 "NamePlate$State" "cuts" "I", Cond.fieldLink RX4 47 "NamePlate$State" "lost" "I", Cond.methodLink RX4 50 yX1_copyFrom, Cond.instanceMethod yX1_copyFrom, Cond.selects RX1 yX1_copyFrom yX1_copyFrom, Cond.initialized RX1, Cond.code yX1_copyFrom cX1_copyFrom 2 none, Cond.fieldLink RX1 9 "NamePlate$Names" "codes" "[C", Cond.methodLink RX1 23 arraycopyName, Cond.native arraycopyName, Cond.static arraycopyName, Cond.initialized "java/lang/System", Cond.fieldLink RX1 15 "NamePlate$Names" "lengths" "[I", Cond.fieldLink RX1 19 "NamePlate$Names" "number" "I", Cond.methodLink RX4 54 yX2_copyFrom, Cond.instanceMethod yX2_copyFrom, Cond.selects RX2 yX2_copyFrom yX2_copyFrom, Cond.initialized RX2, Cond.code yX2_copyFrom cX2_copyFrom 2 none]
def wsX6_restore_r3 : List Cond := [Cond.fieldLink RX2 9 "NamePlate$Pairs" "lefts" "[C", Cond.methodLink RX2 26 arraycopyName, Cond.fieldLink RX2 15 "NamePlate$Pairs" "rights" "[C", Cond.fieldLink RX2 18 "NamePlate$Pairs" "adjustments" "[I", Cond.fieldLink RX2 22 "NamePlate$Pairs" "number" "I", Cond.methodLink RX6 165 yX4_copyFrom]
def wsX6_restore : List Cond := .code yX6_restore cX6_restore 1 (some .int) :: ((wsX6_restore_r1 ++ (wsX6_restore_r2 ++ wsX6_restore_r3)) ++ wsX60 ++ wsX40 ++ wsX10 ++ wsX00 ++ wsX20)
def wsX6_nameBySize_r1 : List Cond := [Cond.fieldLink RX6 10 "NamePlate" "now" "LNamePlate$State;", Cond.methodLink RX6 143 yX4_fits, Cond.instanceMethod yX4_fits, Cond.selects RX4 yX4_fits yX4_fits, Cond.initialized RX4, Cond.code yX4_fits cX4_fits 3 (some .boolean), Cond.fieldLink RX4 25 "NamePlate$State" "width" "I", Cond.fieldLink RX4 29 "NamePlate$State" "height" "I", Cond.fieldLink RX4 32 "NamePlate$State" "margin" "I", Cond.methodLink RX4 119 yX4_unitsOf, Cond.instanceMethod yX4_unitsOf, Cond.selects RX4 yX4_unitsOf yX4_unitsOf, Cond.code yX4_unitsOf cX4_unitsOf 2 (some .int), Cond.fieldLink RX4 12 "NamePlate$State" "names" "LNamePlate$Names;", Cond.methodLink RX4 82 yX1_lengthOf, Cond.instanceMethod yX1_lengthOf, Cond.selects RX1 yX1_lengthOf yX1_lengthOf, Cond.initialized RX1, Cond.code yX1_lengthOf cX1_lengthOf 2 (some .int), Cond.fieldLink RX1 15 "NamePlate$Names" "lengths" "[I", Cond.methodLink RX4 113 yX4_unitsBefore, Cond.instanceMethod yX4_unitsBefore, Cond.selects RX4 yX4_unitsBefore yX4_unitsBefore, Cond.code yX4_unitsBefore cX4_unitsBefore 5 (some .int)]
def wsX6_nameBySize_r2 : List Cond := [Cond.methodLink RX4 85 yX1_codeAt, Cond.instanceMethod yX1_codeAt, Cond.selects RX1 yX1_codeAt yX1_codeAt, Cond.code yX1_codeAt cX1_codeAt 4 (some .char), Cond.fieldLink RX1 9 "NamePlate$Names" "codes" "[C", Cond.methodLink RX4 111 yX3_width, Cond.static yX3_width, Cond.initialized RX3, Cond.code yX3_width cX3_width 1 (some .int), Cond.methodLink RX4 108 yX4_spaceBehind, Cond.instanceMethod yX4_spaceBehind, Cond.selects RX4 yX4_spaceBehind yX4_spaceBehind, Cond.code yX4_spaceBehind cX4_spaceBehind 6 (some .int), Cond.fieldLink RX4 21 "NamePlate$State" "pairs" "LNamePlate$Pairs;", Cond.methodLink RX4 102 Lib.Math.max.name, Cond.static Lib.Math.max.name, Cond.initialized "java/lang/Math", Cond.code Lib.Math.max.name Lib.Math.max.code 2 (some .int), Cond.methodLink RX4 89 yX2_placeOf, Cond.instanceMethod yX2_placeOf, Cond.selects RX2 yX2_placeOf yX2_placeOf, Cond.initialized RX2, Cond.code yX2_placeOf cX2_placeOf 4 (some .int), Cond.fieldLink RX2 22 "NamePlate$Pairs" "number" "I"]
def wsX6_nameBySize_r3 : List Cond := [Cond.fieldLink RX2 9 "NamePlate$Pairs" "lefts" "[C", Cond.fieldLink RX2 15 "NamePlate$Pairs" "rights" "[C", Cond.methodLink RX4 93 yX2_adjustmentAt, Cond.instanceMethod yX2_adjustmentAt, Cond.selects RX2 yX2_adjustmentAt yX2_adjustmentAt, Cond.code yX2_adjustmentAt cX2_adjustmentAt 2 (some .int), Cond.fieldLink RX2 18 "NamePlate$Pairs" "adjustments" "[I", Cond.methodLink RX4 96 yX3_openness, Cond.static yX3_openness, Cond.code yX3_openness cX3_openness 1 (some .int), Cond.methodLink RX4 131 yX4_columnWidth, Cond.instanceMethod yX4_columnWidth, Cond.selects RX4 yX4_columnWidth yX4_columnWidth, Cond.code yX4_columnWidth cX4_columnWidth 2 (some .int), Cond.fieldLink RX4 35 "NamePlate$State" "columns" "I", Cond.methodLink RX4 122 yX4_quotient, Cond.static yX4_quotient, Cond.code yX4_quotient cX4_quotient 2 (some .int), Cond.methodLink RX4 160 yJ9_floorDiv_7cf53, Cond.static yJ9_floorDiv_7cf53, Cond.initialized RJ9, Cond.code yJ9_floorDiv_7cf53 cJ9_floorDiv_7cf53 3 (some .int), Cond.methodLink RX4 125 yX4_rowOf, Cond.instanceMethod yX4_rowOf]
def wsX6_nameBySize_r4 : List Cond := [Cond.selects RX4 yX4_rowOf yX4_rowOf, Cond.code yX4_rowOf cX4_rowOf 2 (some .int), Cond.methodLink RX6 149 yX4_beginOf, Cond.instanceMethod yX4_beginOf, Cond.selects RX4 yX4_beginOf yX4_beginOf, Cond.code yX4_beginOf cX4_beginOf 9 (some .int), Cond.methodLink RX4 157 Lib.Math.min.name, Cond.static Lib.Math.min.name, Cond.code Lib.Math.min.name Lib.Math.min.code 2 (some .int), Cond.methodLink RX4 148 yX4_columnBegin, Cond.instanceMethod yX4_columnBegin, Cond.selects RX4 yX4_columnBegin yX4_columnBegin, Cond.code yX4_columnBegin cX4_columnBegin 2 (some .int), Cond.methodLink RX4 128 yX4_columnOf, Cond.instanceMethod yX4_columnOf, Cond.selects RX4 yX4_columnOf yX4_columnOf, Cond.code yX4_columnOf cX4_columnOf 2 (some .int), Cond.methodLink RX4 151 yX4_inkOf, Cond.instanceMethod yX4_inkOf, Cond.selects RX4 yX4_inkOf yX4_inkOf, Cond.code yX4_inkOf cX4_inkOf 4 (some .int), Cond.methodLink RX4 116 yX3_ink, Cond.static yX3_ink, Cond.code yX3_ink cX3_ink 1 (some .int)]
def wsX6_nameBySize_r5 : List Cond := [Cond.methodLink RX4 154 yX4_twiceInkMoment, Cond.instanceMethod yX4_twiceInkMoment, Cond.selects RX4 yX4_twiceInkMoment yX4_twiceInkMoment, Cond.code yX4_twiceInkMoment cX4_twiceInkMoment 7 (some .int), Cond.methodLink RX6 187 yX4_rowBegin, Cond.instanceMethod yX4_rowBegin, Cond.selects RX4 yX4_rowBegin yX4_rowBegin, Cond.code yX4_rowBegin cX4_rowBegin 3 (some .int), Cond.methodLink RX6 171 yX4_unitsOf, Cond.methodLink RX6 190 yX4_middleBegin, Cond.instanceMethod yX4_middleBegin, Cond.selects RX4 yX4_middleBegin yX4_middleBegin, Cond.code yX4_middleBegin cX4_middleBegin 5 (some .int)]
def wsX6_nameBySize : List Cond := .code yX6_nameBySize cX6_nameBySize 4 (some .int) :: ((wsX6_nameBySize_r1 ++ (wsX6_nameBySize_r2 ++ (wsX6_nameBySize_r3 ++ (wsX6_nameBySize_r4 ++ wsX6_nameBySize_r5)))) ++ wsX60 ++ wsX40 ++ wsX10 ++ wsX20)
def wsX6_name_r1 : List Cond := [Cond.fieldLink RX6 10 "NamePlate" "now" "LNamePlate$State;", Cond.methodLink RX6 122 yX1_isTaken, Cond.instanceMethod yX1_isTaken, Cond.selects RX1 yX1_isTaken yX1_isTaken, Cond.initialized RX1, Cond.code yX1_isTaken cX1_isTaken 2 (some .boolean), Cond.fieldLink RX1 19 "NamePlate$Names" "number" "I", Cond.methodLink RX6 168 yX1_lengthOf, Cond.instanceMethod yX1_lengthOf, Cond.selects RX1 yX1_lengthOf yX1_lengthOf, Cond.code yX1_lengthOf cX1_lengthOf 2 (some .int), Cond.fieldLink RX1 15 "NamePlate$Names" "lengths" "[I", Cond.methodLink RX6 171 yX4_unitsOf, Cond.instanceMethod yX4_unitsOf, Cond.selects RX4 yX4_unitsOf yX4_unitsOf, Cond.initialized RX4, Cond.code yX4_unitsOf cX4_unitsOf 2 (some .int), Cond.fieldLink RX4 12 "NamePlate$State" "names" "LNamePlate$Names;", Cond.methodLink RX4 82 yX1_lengthOf, Cond.methodLink RX4 113 yX4_unitsBefore, Cond.instanceMethod yX4_unitsBefore, Cond.selects RX4 yX4_unitsBefore yX4_unitsBefore, Cond.code yX4_unitsBefore cX4_unitsBefore 5 (some .int), Cond.methodLink RX4 85 yX1_codeAt]
def wsX6_name_r2 : List Cond := [Cond.instanceMethod yX1_codeAt, Cond.selects RX1 yX1_codeAt yX1_codeAt, Cond.code yX1_codeAt cX1_codeAt 4 (some .char), Cond.fieldLink RX1 9 "NamePlate$Names" "codes" "[C", Cond.methodLink RX4 111 yX3_width, Cond.static yX3_width, Cond.initialized RX3, Cond.code yX3_width cX3_width 1 (some .int), Cond.methodLink RX4 108 yX4_spaceBehind, Cond.instanceMethod yX4_spaceBehind, Cond.selects RX4 yX4_spaceBehind yX4_spaceBehind, Cond.code yX4_spaceBehind cX4_spaceBehind 6 (some .int), Cond.fieldLink RX4 21 "NamePlate$State" "pairs" "LNamePlate$Pairs;", Cond.methodLink RX4 102 Lib.Math.max.name, Cond.static Lib.Math.max.name, Cond.initialized "java/lang/Math", Cond.code Lib.Math.max.name Lib.Math.max.code 2 (some .int), Cond.methodLink RX4 89 yX2_placeOf, Cond.instanceMethod yX2_placeOf, Cond.selects RX2 yX2_placeOf yX2_placeOf, Cond.initialized RX2, Cond.code yX2_placeOf cX2_placeOf 4 (some .int), Cond.fieldLink RX2 22 "NamePlate$Pairs" "number" "I", Cond.fieldLink RX2 9 "NamePlate$Pairs" "lefts" "[C"]
def wsX6_name_r3 : List Cond := [Cond.fieldLink RX2 15 "NamePlate$Pairs" "rights" "[C", Cond.methodLink RX4 93 yX2_adjustmentAt, Cond.instanceMethod yX2_adjustmentAt, Cond.selects RX2 yX2_adjustmentAt yX2_adjustmentAt, Cond.code yX2_adjustmentAt cX2_adjustmentAt 2 (some .int), Cond.fieldLink RX2 18 "NamePlate$Pairs" "adjustments" "[I", Cond.methodLink RX4 96 yX3_openness, Cond.static yX3_openness, Cond.code yX3_openness cX3_openness 1 (some .int), Cond.methodLink RX6 133 yX4_isEngraved, Cond.instanceMethod yX4_isEngraved, Cond.selects RX4 yX4_isEngraved yX4_isEngraved, Cond.code yX4_isEngraved cX4_isEngraved 2 (some .boolean), Cond.fieldLink RX4 38 "NamePlate$State" "engraved" "I", Cond.methodLink RX6 174 yX4_rowOf, Cond.instanceMethod yX4_rowOf, Cond.selects RX4 yX4_rowOf yX4_rowOf, Cond.code yX4_rowOf cX4_rowOf 2 (some .int), Cond.fieldLink RX4 35 "NamePlate$State" "columns" "I", Cond.methodLink RX4 122 yX4_quotient, Cond.static yX4_quotient, Cond.code yX4_quotient cX4_quotient 2 (some .int), Cond.methodLink RX4 160 yJ9_floorDiv_7cf53, Cond.static yJ9_floorDiv_7cf53]
def wsX6_name_r4 : List Cond := [Cond.initialized RJ9, Cond.code yJ9_floorDiv_7cf53 cJ9_floorDiv_7cf53 3 (some .int), Cond.methodLink RX6 177 yX4_columnOf, Cond.instanceMethod yX4_columnOf, Cond.selects RX4 yX4_columnOf yX4_columnOf, Cond.code yX4_columnOf cX4_columnOf 2 (some .int), Cond.methodLink RX6 180 yX4_inkOf, Cond.instanceMethod yX4_inkOf, Cond.selects RX4 yX4_inkOf yX4_inkOf, Cond.code yX4_inkOf cX4_inkOf 4 (some .int), Cond.methodLink RX4 116 yX3_ink, Cond.static yX3_ink, Cond.code yX3_ink cX3_ink 1 (some .int), Cond.methodLink RX6 140 yX4_sizeNow, Cond.instanceMethod yX4_sizeNow, Cond.selects RX4 yX4_sizeNow yX4_sizeNow, Cond.code yX4_sizeNow cX4_sizeNow 1 (some .int), Cond.fieldLink RX4 41 "NamePlate$State" "engravedSize" "I", Cond.fieldLink RX4 25 "NamePlate$State" "width" "I", Cond.fieldLink RX4 29 "NamePlate$State" "height" "I", Cond.methodLink RX4 134 yX4_hasEngraved, Cond.instanceMethod yX4_hasEngraved, Cond.selects RX4 yX4_hasEngraved yX4_hasEngraved, Cond.code yX4_hasEngraved cX4_hasEngraved 1 (some .boolean)]
def wsX6_name_r5 : List Cond := [Cond.methodLink RX4 138 yX4_mostUnits, Cond.instanceMethod yX4_mostUnits, Cond.selects RX4 yX4_mostUnits yX4_mostUnits, Cond.code yX4_mostUnits cX4_mostUnits 4 (some .int), Cond.methodLink RX4 119 yX4_unitsOf, Cond.methodLink RX4 141 yX4_greatestSize, Cond.instanceMethod yX4_greatestSize, Cond.selects RX4 yX4_greatestSize yX4_greatestSize, Cond.code yX4_greatestSize cX4_greatestSize 7 (some .int), Cond.fieldLink RX4 32 "NamePlate$State" "margin" "I", Cond.methodLink RX4 145 yX4_rowsFor, Cond.instanceMethod yX4_rowsFor, Cond.selects RX4 yX4_rowsFor yX4_rowsFor, Cond.code yX4_rowsFor cX4_rowsFor 2 (some .int), Cond.methodLink RX4 131 yX4_columnWidth, Cond.instanceMethod yX4_columnWidth, Cond.selects RX4 yX4_columnWidth yX4_columnWidth, Cond.code yX4_columnWidth cX4_columnWidth 2 (some .int), Cond.methodLink RX6 183 yX6_nameBySize, Cond.instanceMethod yX6_nameBySize, Cond.selects RX6 yX6_nameBySize yX6_nameBySize, Cond.initialized RX6, Cond.code yX6_nameBySize cX6_nameBySize 4 (some .int), Cond.methodLink RX6 143 yX4_fits]
def wsX6_name_r6 : List Cond := [Cond.instanceMethod yX4_fits, Cond.selects RX4 yX4_fits yX4_fits, Cond.code yX4_fits cX4_fits 3 (some .boolean), Cond.methodLink RX4 125 yX4_rowOf, Cond.methodLink RX6 149 yX4_beginOf, Cond.instanceMethod yX4_beginOf, Cond.selects RX4 yX4_beginOf yX4_beginOf, Cond.code yX4_beginOf cX4_beginOf 9 (some .int), Cond.methodLink RX4 157 Lib.Math.min.name, Cond.static Lib.Math.min.name, Cond.code Lib.Math.min.name Lib.Math.min.code 2 (some .int), Cond.methodLink RX4 148 yX4_columnBegin, Cond.instanceMethod yX4_columnBegin, Cond.selects RX4 yX4_columnBegin yX4_columnBegin, Cond.code yX4_columnBegin cX4_columnBegin 2 (some .int), Cond.methodLink RX4 128 yX4_columnOf, Cond.methodLink RX4 151 yX4_inkOf, Cond.methodLink RX4 154 yX4_twiceInkMoment, Cond.instanceMethod yX4_twiceInkMoment, Cond.selects RX4 yX4_twiceInkMoment yX4_twiceInkMoment, Cond.code yX4_twiceInkMoment cX4_twiceInkMoment 7 (some .int), Cond.methodLink RX6 187 yX4_rowBegin, Cond.instanceMethod yX4_rowBegin, Cond.selects RX4 yX4_rowBegin yX4_rowBegin]
def wsX6_name_r7 : List Cond := [Cond.code yX4_rowBegin cX4_rowBegin 3 (some .int), Cond.methodLink RX6 190 yX4_middleBegin, Cond.instanceMethod yX4_middleBegin, Cond.selects RX4 yX4_middleBegin yX4_middleBegin, Cond.code yX4_middleBegin cX4_middleBegin 5 (some .int)]
def wsX6_name : List Cond := .code yX6_name cX6_name 3 (some .int) :: ((wsX6_name_r1 ++ (wsX6_name_r2 ++ (wsX6_name_r3 ++ (wsX6_name_r4 ++ (wsX6_name_r5 ++ (wsX6_name_r6 ++ wsX6_name_r7)))))) ++ wsX60 ++ wsX40 ++ wsX10 ++ wsX20)
def wsX6_signBegin_r1 : List Cond := [Cond.fieldLink RX6 10 "NamePlate" "now" "LNamePlate$State;", Cond.methodLink RX6 149 yX4_beginOf, Cond.instanceMethod yX4_beginOf, Cond.selects RX4 yX4_beginOf yX4_beginOf, Cond.initialized RX4, Cond.code yX4_beginOf cX4_beginOf 9 (some .int), Cond.fieldLink RX4 25 "NamePlate$State" "width" "I", Cond.methodLink RX4 157 Lib.Math.min.name, Cond.static Lib.Math.min.name, Cond.initialized "java/lang/Math", Cond.code Lib.Math.min.name Lib.Math.min.code 2 (some .int), Cond.methodLink RX4 102 Lib.Math.max.name, Cond.static Lib.Math.max.name, Cond.code Lib.Math.max.name Lib.Math.max.code 2 (some .int), Cond.methodLink RX4 131 yX4_columnWidth, Cond.instanceMethod yX4_columnWidth, Cond.selects RX4 yX4_columnWidth yX4_columnWidth, Cond.code yX4_columnWidth cX4_columnWidth 2 (some .int), Cond.fieldLink RX4 32 "NamePlate$State" "margin" "I", Cond.fieldLink RX4 35 "NamePlate$State" "columns" "I", Cond.methodLink RX4 122 yX4_quotient, Cond.static yX4_quotient, Cond.code yX4_quotient cX4_quotient 2 (some .int), Cond.methodLink RX4 160 yJ9_floorDiv_7cf53]
def wsX6_signBegin_r2 : List Cond := [Cond.static yJ9_floorDiv_7cf53, Cond.initialized RJ9, Cond.code yJ9_floorDiv_7cf53 cJ9_floorDiv_7cf53 3 (some .int), Cond.methodLink RX4 148 yX4_columnBegin, Cond.instanceMethod yX4_columnBegin, Cond.selects RX4 yX4_columnBegin yX4_columnBegin, Cond.code yX4_columnBegin cX4_columnBegin 2 (some .int), Cond.methodLink RX4 128 yX4_columnOf, Cond.instanceMethod yX4_columnOf, Cond.selects RX4 yX4_columnOf yX4_columnOf, Cond.code yX4_columnOf cX4_columnOf 2 (some .int), Cond.methodLink RX4 151 yX4_inkOf, Cond.instanceMethod yX4_inkOf, Cond.selects RX4 yX4_inkOf yX4_inkOf, Cond.code yX4_inkOf cX4_inkOf 4 (some .int), Cond.fieldLink RX4 12 "NamePlate$State" "names" "LNamePlate$Names;", Cond.methodLink RX4 82 yX1_lengthOf, Cond.instanceMethod yX1_lengthOf, Cond.selects RX1 yX1_lengthOf yX1_lengthOf, Cond.initialized RX1, Cond.code yX1_lengthOf cX1_lengthOf 2 (some .int), Cond.fieldLink RX1 15 "NamePlate$Names" "lengths" "[I", Cond.methodLink RX4 85 yX1_codeAt, Cond.instanceMethod yX1_codeAt]
def wsX6_signBegin_r3 : List Cond := [Cond.selects RX1 yX1_codeAt yX1_codeAt, Cond.code yX1_codeAt cX1_codeAt 4 (some .char), Cond.fieldLink RX1 9 "NamePlate$Names" "codes" "[C", Cond.methodLink RX4 116 yX3_ink, Cond.static yX3_ink, Cond.initialized RX3, Cond.code yX3_ink cX3_ink 1 (some .int), Cond.methodLink RX4 154 yX4_twiceInkMoment, Cond.instanceMethod yX4_twiceInkMoment, Cond.selects RX4 yX4_twiceInkMoment yX4_twiceInkMoment, Cond.code yX4_twiceInkMoment cX4_twiceInkMoment 7 (some .int), Cond.methodLink RX4 111 yX3_width, Cond.static yX3_width, Cond.code yX3_width cX3_width 1 (some .int), Cond.methodLink RX4 108 yX4_spaceBehind, Cond.instanceMethod yX4_spaceBehind, Cond.selects RX4 yX4_spaceBehind yX4_spaceBehind, Cond.code yX4_spaceBehind cX4_spaceBehind 6 (some .int), Cond.fieldLink RX4 21 "NamePlate$State" "pairs" "LNamePlate$Pairs;", Cond.methodLink RX4 89 yX2_placeOf, Cond.instanceMethod yX2_placeOf, Cond.selects RX2 yX2_placeOf yX2_placeOf, Cond.initialized RX2, Cond.code yX2_placeOf cX2_placeOf 4 (some .int)]
def wsX6_signBegin_r4 : List Cond := [Cond.fieldLink RX2 22 "NamePlate$Pairs" "number" "I", Cond.fieldLink RX2 9 "NamePlate$Pairs" "lefts" "[C", Cond.fieldLink RX2 15 "NamePlate$Pairs" "rights" "[C", Cond.methodLink RX4 93 yX2_adjustmentAt, Cond.instanceMethod yX2_adjustmentAt, Cond.selects RX2 yX2_adjustmentAt yX2_adjustmentAt, Cond.code yX2_adjustmentAt cX2_adjustmentAt 2 (some .int), Cond.fieldLink RX2 18 "NamePlate$Pairs" "adjustments" "[I", Cond.methodLink RX4 96 yX3_openness, Cond.static yX3_openness, Cond.code yX3_openness cX3_openness 1 (some .int), Cond.methodLink RX4 119 yX4_unitsOf, Cond.instanceMethod yX4_unitsOf, Cond.selects RX4 yX4_unitsOf yX4_unitsOf, Cond.code yX4_unitsOf cX4_unitsOf 2 (some .int), Cond.methodLink RX4 113 yX4_unitsBefore, Cond.instanceMethod yX4_unitsBefore, Cond.selects RX4 yX4_unitsBefore yX4_unitsBefore, Cond.code yX4_unitsBefore cX4_unitsBefore 5 (some .int), Cond.methodLink RX6 200 yX4_unitsBefore]
def wsX6_signBegin : List Cond := .code yX6_signBegin cX6_signBegin 4 (some .int) :: ((wsX6_signBegin_r1 ++ (wsX6_signBegin_r2 ++ (wsX6_signBegin_r3 ++ wsX6_signBegin_r4))) ++ wsX60 ++ wsX40 ++ wsX10 ++ wsX20)
def wsX6_sign_r1 : List Cond := [Cond.fieldLink RX6 10 "NamePlate" "now" "LNamePlate$State;", Cond.methodLink RX6 193 yX1_isIn, Cond.instanceMethod yX1_isIn, Cond.selects RX1 yX1_isIn yX1_isIn, Cond.initialized RX1, Cond.code yX1_isIn cX1_isIn 3 (some .boolean), Cond.methodLink RX1 29 yX1_isTaken, Cond.instanceMethod yX1_isTaken, Cond.selects RX1 yX1_isTaken yX1_isTaken, Cond.code yX1_isTaken cX1_isTaken 2 (some .boolean), Cond.fieldLink RX1 19 "NamePlate$Names" "number" "I", Cond.methodLink RX1 33 yX1_lengthOf, Cond.instanceMethod yX1_lengthOf, Cond.selects RX1 yX1_lengthOf yX1_lengthOf, Cond.code yX1_lengthOf cX1_lengthOf 2 (some .int), Cond.fieldLink RX1 15 "NamePlate$Names" "lengths" "[I", Cond.methodLink RX6 196 yX1_codeAt, Cond.instanceMethod yX1_codeAt, Cond.selects RX1 yX1_codeAt yX1_codeAt, Cond.code yX1_codeAt cX1_codeAt 4 (some .char), Cond.fieldLink RX1 9 "NamePlate$Names" "codes" "[C", Cond.methodLink RX6 200 yX4_unitsBefore, Cond.instanceMethod yX4_unitsBefore, Cond.selects RX4 yX4_unitsBefore yX4_unitsBefore]
def wsX6_sign_r2 : List Cond := [Cond.initialized RX4, Cond.code yX4_unitsBefore cX4_unitsBefore 5 (some .int), Cond.fieldLink RX4 12 "NamePlate$State" "names" "LNamePlate$Names;", Cond.methodLink RX4 85 yX1_codeAt, Cond.methodLink RX4 111 yX3_width, Cond.static yX3_width, Cond.initialized RX3, Cond.code yX3_width cX3_width 1 (some .int), Cond.methodLink RX4 108 yX4_spaceBehind, Cond.instanceMethod yX4_spaceBehind, Cond.selects RX4 yX4_spaceBehind yX4_spaceBehind, Cond.code yX4_spaceBehind cX4_spaceBehind 6 (some .int), Cond.fieldLink RX4 21 "NamePlate$State" "pairs" "LNamePlate$Pairs;", Cond.methodLink RX4 102 Lib.Math.max.name, Cond.static Lib.Math.max.name, Cond.initialized "java/lang/Math", Cond.code Lib.Math.max.name Lib.Math.max.code 2 (some .int), Cond.methodLink RX4 82 yX1_lengthOf, Cond.methodLink RX4 89 yX2_placeOf, Cond.instanceMethod yX2_placeOf, Cond.selects RX2 yX2_placeOf yX2_placeOf, Cond.initialized RX2, Cond.code yX2_placeOf cX2_placeOf 4 (some .int), Cond.fieldLink RX2 22 "NamePlate$Pairs" "number" "I"]
def wsX6_sign_r3 : List Cond := [Cond.fieldLink RX2 9 "NamePlate$Pairs" "lefts" "[C", Cond.fieldLink RX2 15 "NamePlate$Pairs" "rights" "[C", Cond.methodLink RX4 93 yX2_adjustmentAt, Cond.instanceMethod yX2_adjustmentAt, Cond.selects RX2 yX2_adjustmentAt yX2_adjustmentAt, Cond.code yX2_adjustmentAt cX2_adjustmentAt 2 (some .int), Cond.fieldLink RX2 18 "NamePlate$Pairs" "adjustments" "[I", Cond.methodLink RX4 96 yX3_openness, Cond.static yX3_openness, Cond.code yX3_openness cX3_openness 1 (some .int), Cond.methodLink RX6 203 yX3_width, Cond.methodLink RX6 207 yX1_isLast, Cond.instanceMethod yX1_isLast, Cond.selects RX1 yX1_isLast yX1_isLast, Cond.code yX1_isLast cX1_isLast 3 (some .boolean), Cond.methodLink RX6 210 yX4_spaceBehind, Cond.methodLink RX6 213 yX4_measuredSpace, Cond.instanceMethod yX4_measuredSpace, Cond.selects RX4 yX4_measuredSpace yX4_measuredSpace, Cond.code yX4_measuredSpace cX4_measuredSpace 3 (some .int), Cond.methodLink RX6 140 yX4_sizeNow, Cond.instanceMethod yX4_sizeNow, Cond.selects RX4 yX4_sizeNow yX4_sizeNow, Cond.code yX4_sizeNow cX4_sizeNow 1 (some .int)]
def wsX6_sign_r4 : List Cond := [Cond.fieldLink RX4 41 "NamePlate$State" "engravedSize" "I", Cond.fieldLink RX4 25 "NamePlate$State" "width" "I", Cond.fieldLink RX4 29 "NamePlate$State" "height" "I", Cond.methodLink RX4 134 yX4_hasEngraved, Cond.instanceMethod yX4_hasEngraved, Cond.selects RX4 yX4_hasEngraved yX4_hasEngraved, Cond.code yX4_hasEngraved cX4_hasEngraved 1 (some .boolean), Cond.fieldLink RX4 38 "NamePlate$State" "engraved" "I", Cond.methodLink RX4 138 yX4_mostUnits, Cond.instanceMethod yX4_mostUnits, Cond.selects RX4 yX4_mostUnits yX4_mostUnits, Cond.code yX4_mostUnits cX4_mostUnits 4 (some .int), Cond.methodLink RX4 119 yX4_unitsOf, Cond.instanceMethod yX4_unitsOf, Cond.selects RX4 yX4_unitsOf yX4_unitsOf, Cond.code yX4_unitsOf cX4_unitsOf 2 (some .int), Cond.methodLink RX4 113 yX4_unitsBefore, Cond.methodLink RX4 141 yX4_greatestSize, Cond.instanceMethod yX4_greatestSize, Cond.selects RX4 yX4_greatestSize yX4_greatestSize, Cond.code yX4_greatestSize cX4_greatestSize 7 (some .int), Cond.fieldLink RX4 32 "NamePlate$State" "margin" "I", Cond.methodLink RX4 145 yX4_rowsFor, Cond.instanceMethod yX4_rowsFor]
def wsX6_sign_r5 : List Cond := [Cond.selects RX4 yX4_rowsFor yX4_rowsFor, Cond.code yX4_rowsFor cX4_rowsFor 2 (some .int), Cond.fieldLink RX4 35 "NamePlate$State" "columns" "I", Cond.methodLink RX4 122 yX4_quotient, Cond.static yX4_quotient, Cond.code yX4_quotient cX4_quotient 2 (some .int), Cond.methodLink RX4 160 yJ9_floorDiv_7cf53, Cond.static yJ9_floorDiv_7cf53, Cond.initialized RJ9, Cond.code yJ9_floorDiv_7cf53 cJ9_floorDiv_7cf53 3 (some .int), Cond.methodLink RX4 131 yX4_columnWidth, Cond.instanceMethod yX4_columnWidth, Cond.selects RX4 yX4_columnWidth yX4_columnWidth, Cond.code yX4_columnWidth cX4_columnWidth 2 (some .int), Cond.methodLink RX6 216 yX6_signBegin, Cond.instanceMethod yX6_signBegin, Cond.selects RX6 yX6_signBegin yX6_signBegin, Cond.initialized RX6, Cond.code yX6_signBegin cX6_signBegin 4 (some .int), Cond.methodLink RX6 149 yX4_beginOf, Cond.instanceMethod yX4_beginOf, Cond.selects RX4 yX4_beginOf yX4_beginOf, Cond.code yX4_beginOf cX4_beginOf 9 (some .int), Cond.methodLink RX4 157 Lib.Math.min.name]
def wsX6_sign_r6 : List Cond := [Cond.static Lib.Math.min.name, Cond.code Lib.Math.min.name Lib.Math.min.code 2 (some .int), Cond.methodLink RX4 148 yX4_columnBegin, Cond.instanceMethod yX4_columnBegin, Cond.selects RX4 yX4_columnBegin yX4_columnBegin, Cond.code yX4_columnBegin cX4_columnBegin 2 (some .int), Cond.methodLink RX4 128 yX4_columnOf, Cond.instanceMethod yX4_columnOf, Cond.selects RX4 yX4_columnOf yX4_columnOf, Cond.code yX4_columnOf cX4_columnOf 2 (some .int), Cond.methodLink RX4 151 yX4_inkOf, Cond.instanceMethod yX4_inkOf, Cond.selects RX4 yX4_inkOf yX4_inkOf, Cond.code yX4_inkOf cX4_inkOf 4 (some .int), Cond.methodLink RX4 116 yX3_ink, Cond.static yX3_ink, Cond.code yX3_ink cX3_ink 1 (some .int), Cond.methodLink RX4 154 yX4_twiceInkMoment, Cond.instanceMethod yX4_twiceInkMoment, Cond.selects RX4 yX4_twiceInkMoment yX4_twiceInkMoment, Cond.code yX4_twiceInkMoment cX4_twiceInkMoment 7 (some .int)]
def wsX6_sign : List Cond := .code yX6_sign cX6_sign 5 (some .int) :: ((wsX6_sign_r1 ++ (wsX6_sign_r2 ++ (wsX6_sign_r3 ++ (wsX6_sign_r4 ++ (wsX6_sign_r5 ++ wsX6_sign_r6))))) ++ wsX60 ++ wsX40 ++ wsX10 ++ wsX20)
def wsX6_signAt_r1 : List Cond := [Cond.fieldLink RX6 10 "NamePlate" "now" "LNamePlate$State;", Cond.methodLink RX6 140 yX4_sizeNow, Cond.instanceMethod yX4_sizeNow, Cond.selects RX4 yX4_sizeNow yX4_sizeNow, Cond.initialized RX4, Cond.code yX4_sizeNow cX4_sizeNow 1 (some .int), Cond.fieldLink RX4 41 "NamePlate$State" "engravedSize" "I", Cond.fieldLink RX4 25 "NamePlate$State" "width" "I", Cond.fieldLink RX4 29 "NamePlate$State" "height" "I", Cond.fieldLink RX4 12 "NamePlate$State" "names" "LNamePlate$Names;", Cond.methodLink RX4 134 yX4_hasEngraved, Cond.instanceMethod yX4_hasEngraved, Cond.selects RX4 yX4_hasEngraved yX4_hasEngraved, Cond.code yX4_hasEngraved cX4_hasEngraved 1 (some .boolean), Cond.fieldLink RX4 38 "NamePlate$State" "engraved" "I", Cond.methodLink RX4 138 yX4_mostUnits, Cond.instanceMethod yX4_mostUnits, Cond.selects RX4 yX4_mostUnits yX4_mostUnits, Cond.code yX4_mostUnits cX4_mostUnits 4 (some .int), Cond.methodLink RX4 102 Lib.Math.max.name, Cond.static Lib.Math.max.name, Cond.initialized "java/lang/Math", Cond.code Lib.Math.max.name Lib.Math.max.code 2 (some .int), Cond.methodLink RX4 119 yX4_unitsOf]
def wsX6_signAt_r2 : List Cond := [Cond.instanceMethod yX4_unitsOf, Cond.selects RX4 yX4_unitsOf yX4_unitsOf, Cond.code yX4_unitsOf cX4_unitsOf 2 (some .int), Cond.methodLink RX4 82 yX1_lengthOf, Cond.instanceMethod yX1_lengthOf, Cond.selects RX1 yX1_lengthOf yX1_lengthOf, Cond.initialized RX1, Cond.code yX1_lengthOf cX1_lengthOf 2 (some .int), Cond.fieldLink RX1 15 "NamePlate$Names" "lengths" "[I", Cond.methodLink RX4 113 yX4_unitsBefore, Cond.instanceMethod yX4_unitsBefore, Cond.selects RX4 yX4_unitsBefore yX4_unitsBefore, Cond.code yX4_unitsBefore cX4_unitsBefore 5 (some .int), Cond.methodLink RX4 85 yX1_codeAt, Cond.instanceMethod yX1_codeAt, Cond.selects RX1 yX1_codeAt yX1_codeAt, Cond.code yX1_codeAt cX1_codeAt 4 (some .char), Cond.fieldLink RX1 9 "NamePlate$Names" "codes" "[C", Cond.methodLink RX4 111 yX3_width, Cond.static yX3_width, Cond.initialized RX3, Cond.code yX3_width cX3_width 1 (some .int), Cond.methodLink RX4 108 yX4_spaceBehind, Cond.instanceMethod yX4_spaceBehind]
def wsX6_signAt_r3 : List Cond := [Cond.selects RX4 yX4_spaceBehind yX4_spaceBehind, Cond.code yX4_spaceBehind cX4_spaceBehind 6 (some .int), Cond.fieldLink RX4 21 "NamePlate$State" "pairs" "LNamePlate$Pairs;", Cond.methodLink RX4 89 yX2_placeOf, Cond.instanceMethod yX2_placeOf, Cond.selects RX2 yX2_placeOf yX2_placeOf, Cond.initialized RX2, Cond.code yX2_placeOf cX2_placeOf 4 (some .int), Cond.fieldLink RX2 22 "NamePlate$Pairs" "number" "I", Cond.fieldLink RX2 9 "NamePlate$Pairs" "lefts" "[C", Cond.fieldLink RX2 15 "NamePlate$Pairs" "rights" "[C", Cond.methodLink RX4 93 yX2_adjustmentAt, Cond.instanceMethod yX2_adjustmentAt, Cond.selects RX2 yX2_adjustmentAt yX2_adjustmentAt, Cond.code yX2_adjustmentAt cX2_adjustmentAt 2 (some .int), Cond.fieldLink RX2 18 "NamePlate$Pairs" "adjustments" "[I", Cond.methodLink RX4 96 yX3_openness, Cond.static yX3_openness, Cond.code yX3_openness cX3_openness 1 (some .int), Cond.methodLink RX4 141 yX4_greatestSize, Cond.instanceMethod yX4_greatestSize, Cond.selects RX4 yX4_greatestSize yX4_greatestSize, Cond.code yX4_greatestSize cX4_greatestSize 7 (some .int), Cond.fieldLink RX4 32 "NamePlate$State" "margin" "I"]
def wsX6_signAt_r4 : List Cond := [Cond.methodLink RX4 145 yX4_rowsFor, Cond.instanceMethod yX4_rowsFor, Cond.selects RX4 yX4_rowsFor yX4_rowsFor, Cond.code yX4_rowsFor cX4_rowsFor 2 (some .int), Cond.fieldLink RX4 35 "NamePlate$State" "columns" "I", Cond.methodLink RX4 122 yX4_quotient, Cond.static yX4_quotient, Cond.code yX4_quotient cX4_quotient 2 (some .int), Cond.methodLink RX4 160 yJ9_floorDiv_7cf53, Cond.static yJ9_floorDiv_7cf53, Cond.initialized RJ9, Cond.code yJ9_floorDiv_7cf53 cJ9_floorDiv_7cf53 3 (some .int), Cond.methodLink RX4 131 yX4_columnWidth, Cond.instanceMethod yX4_columnWidth, Cond.selects RX4 yX4_columnWidth yX4_columnWidth, Cond.code yX4_columnWidth cX4_columnWidth 2 (some .int), Cond.methodLink RX6 187 yX4_rowBegin, Cond.instanceMethod yX4_rowBegin, Cond.selects RX4 yX4_rowBegin yX4_rowBegin, Cond.code yX4_rowBegin cX4_rowBegin 3 (some .int), Cond.methodLink RX4 125 yX4_rowOf, Cond.instanceMethod yX4_rowOf, Cond.selects RX4 yX4_rowOf yX4_rowOf, Cond.code yX4_rowOf cX4_rowOf 2 (some .int)]
def wsX6_signAt_r5 : List Cond := [Cond.methodLink RX6 219 yX4_indexAt, Cond.instanceMethod yX4_indexAt, Cond.selects RX4 yX4_indexAt yX4_indexAt, Cond.code yX4_indexAt cX4_indexAt 7 (some .int), Cond.methodLink RX4 163 yX4_beginOf, Cond.instanceMethod yX4_beginOf, Cond.selects RX4 yX4_beginOf yX4_beginOf, Cond.code yX4_beginOf cX4_beginOf 9 (some .int), Cond.methodLink RX4 157 Lib.Math.min.name, Cond.static Lib.Math.min.name, Cond.code Lib.Math.min.name Lib.Math.min.code 2 (some .int), Cond.methodLink RX4 148 yX4_columnBegin, Cond.instanceMethod yX4_columnBegin, Cond.selects RX4 yX4_columnBegin yX4_columnBegin, Cond.code yX4_columnBegin cX4_columnBegin 2 (some .int), Cond.methodLink RX4 128 yX4_columnOf, Cond.instanceMethod yX4_columnOf, Cond.selects RX4 yX4_columnOf yX4_columnOf, Cond.code yX4_columnOf cX4_columnOf 2 (some .int), Cond.methodLink RX4 151 yX4_inkOf, Cond.instanceMethod yX4_inkOf, Cond.selects RX4 yX4_inkOf yX4_inkOf, Cond.code yX4_inkOf cX4_inkOf 4 (some .int), Cond.methodLink RX4 116 yX3_ink]
def wsX6_signAt_r6 : List Cond := [Cond.static yX3_ink, Cond.code yX3_ink cX3_ink 1 (some .int), Cond.methodLink RX4 154 yX4_twiceInkMoment, Cond.instanceMethod yX4_twiceInkMoment, Cond.selects RX4 yX4_twiceInkMoment yX4_twiceInkMoment, Cond.code yX4_twiceInkMoment cX4_twiceInkMoment 7 (some .int)]
def wsX6_signAt : List Cond := .code yX6_signAt cX6_signAt 7 (some .int) :: ((wsX6_signAt_r1 ++ (wsX6_signAt_r2 ++ (wsX6_signAt_r3 ++ (wsX6_signAt_r4 ++ (wsX6_signAt_r5 ++ wsX6_signAt_r6))))) ++ wsX60 ++ wsX40 ++ wsX10 ++ wsX20)
def wsX6_size_r1 : List Cond := [Cond.fieldLink RX6 10 "NamePlate" "now" "LNamePlate$State;", Cond.methodLink RX6 140 yX4_sizeNow, Cond.instanceMethod yX4_sizeNow, Cond.selects RX4 yX4_sizeNow yX4_sizeNow, Cond.initialized RX4, Cond.code yX4_sizeNow cX4_sizeNow 1 (some .int), Cond.fieldLink RX4 41 "NamePlate$State" "engravedSize" "I", Cond.fieldLink RX4 25 "NamePlate$State" "width" "I", Cond.fieldLink RX4 29 "NamePlate$State" "height" "I", Cond.fieldLink RX4 12 "NamePlate$State" "names" "LNamePlate$Names;", Cond.methodLink RX4 134 yX4_hasEngraved, Cond.instanceMethod yX4_hasEngraved, Cond.selects RX4 yX4_hasEngraved yX4_hasEngraved, Cond.code yX4_hasEngraved cX4_hasEngraved 1 (some .boolean), Cond.fieldLink RX4 38 "NamePlate$State" "engraved" "I", Cond.methodLink RX4 138 yX4_mostUnits, Cond.instanceMethod yX4_mostUnits, Cond.selects RX4 yX4_mostUnits yX4_mostUnits, Cond.code yX4_mostUnits cX4_mostUnits 4 (some .int), Cond.methodLink RX4 102 Lib.Math.max.name, Cond.static Lib.Math.max.name, Cond.initialized "java/lang/Math", Cond.code Lib.Math.max.name Lib.Math.max.code 2 (some .int), Cond.methodLink RX4 119 yX4_unitsOf]
def wsX6_size_r2 : List Cond := [Cond.instanceMethod yX4_unitsOf, Cond.selects RX4 yX4_unitsOf yX4_unitsOf, Cond.code yX4_unitsOf cX4_unitsOf 2 (some .int), Cond.methodLink RX4 82 yX1_lengthOf, Cond.instanceMethod yX1_lengthOf, Cond.selects RX1 yX1_lengthOf yX1_lengthOf, Cond.initialized RX1, Cond.code yX1_lengthOf cX1_lengthOf 2 (some .int), Cond.fieldLink RX1 15 "NamePlate$Names" "lengths" "[I", Cond.methodLink RX4 113 yX4_unitsBefore, Cond.instanceMethod yX4_unitsBefore, Cond.selects RX4 yX4_unitsBefore yX4_unitsBefore, Cond.code yX4_unitsBefore cX4_unitsBefore 5 (some .int), Cond.methodLink RX4 85 yX1_codeAt, Cond.instanceMethod yX1_codeAt, Cond.selects RX1 yX1_codeAt yX1_codeAt, Cond.code yX1_codeAt cX1_codeAt 4 (some .char), Cond.fieldLink RX1 9 "NamePlate$Names" "codes" "[C", Cond.methodLink RX4 111 yX3_width, Cond.static yX3_width, Cond.initialized RX3, Cond.code yX3_width cX3_width 1 (some .int), Cond.methodLink RX4 108 yX4_spaceBehind, Cond.instanceMethod yX4_spaceBehind]
def wsX6_size_r3 : List Cond := [Cond.selects RX4 yX4_spaceBehind yX4_spaceBehind, Cond.code yX4_spaceBehind cX4_spaceBehind 6 (some .int), Cond.fieldLink RX4 21 "NamePlate$State" "pairs" "LNamePlate$Pairs;", Cond.methodLink RX4 89 yX2_placeOf, Cond.instanceMethod yX2_placeOf, Cond.selects RX2 yX2_placeOf yX2_placeOf, Cond.initialized RX2, Cond.code yX2_placeOf cX2_placeOf 4 (some .int), Cond.fieldLink RX2 22 "NamePlate$Pairs" "number" "I", Cond.fieldLink RX2 9 "NamePlate$Pairs" "lefts" "[C", Cond.fieldLink RX2 15 "NamePlate$Pairs" "rights" "[C", Cond.methodLink RX4 93 yX2_adjustmentAt, Cond.instanceMethod yX2_adjustmentAt, Cond.selects RX2 yX2_adjustmentAt yX2_adjustmentAt, Cond.code yX2_adjustmentAt cX2_adjustmentAt 2 (some .int), Cond.fieldLink RX2 18 "NamePlate$Pairs" "adjustments" "[I", Cond.methodLink RX4 96 yX3_openness, Cond.static yX3_openness, Cond.code yX3_openness cX3_openness 1 (some .int), Cond.methodLink RX4 141 yX4_greatestSize, Cond.instanceMethod yX4_greatestSize, Cond.selects RX4 yX4_greatestSize yX4_greatestSize, Cond.code yX4_greatestSize cX4_greatestSize 7 (some .int), Cond.fieldLink RX4 32 "NamePlate$State" "margin" "I"]
def wsX6_size_r4 : List Cond := [Cond.methodLink RX4 145 yX4_rowsFor, Cond.instanceMethod yX4_rowsFor, Cond.selects RX4 yX4_rowsFor yX4_rowsFor, Cond.code yX4_rowsFor cX4_rowsFor 2 (some .int), Cond.fieldLink RX4 35 "NamePlate$State" "columns" "I", Cond.methodLink RX4 122 yX4_quotient, Cond.static yX4_quotient, Cond.code yX4_quotient cX4_quotient 2 (some .int), Cond.methodLink RX4 160 yJ9_floorDiv_7cf53, Cond.static yJ9_floorDiv_7cf53, Cond.initialized RJ9, Cond.code yJ9_floorDiv_7cf53 cJ9_floorDiv_7cf53 3 (some .int), Cond.methodLink RX4 131 yX4_columnWidth, Cond.instanceMethod yX4_columnWidth, Cond.selects RX4 yX4_columnWidth yX4_columnWidth, Cond.code yX4_columnWidth cX4_columnWidth 2 (some .int)]
def wsX6_size : List Cond := .code yX6_size cX6_size 1 (some .int) :: ((wsX6_size_r1 ++ (wsX6_size_r2 ++ (wsX6_size_r3 ++ wsX6_size_r4))) ++ wsX60 ++ wsX40 ++ wsX10 ++ wsX20)
def wsX6_sizeBy_r1 : List Cond := [Cond.fieldLink RX6 10 "NamePlate" "now" "LNamePlate$State;", Cond.methodLink RX6 37 yX6_isPlate, Cond.static yX6_isPlate, Cond.initialized RX6, Cond.code yX6_isPlate cX6_isPlate 2 (some .boolean), Cond.methodLink RX6 222 yX4_mostUnits, Cond.instanceMethod yX4_mostUnits, Cond.selects RX4 yX4_mostUnits yX4_mostUnits, Cond.initialized RX4, Cond.code yX4_mostUnits cX4_mostUnits 4 (some .int), Cond.fieldLink RX4 12 "NamePlate$State" "names" "LNamePlate$Names;", Cond.methodLink RX4 102 Lib.Math.max.name, Cond.static Lib.Math.max.name, Cond.initialized "java/lang/Math", Cond.code Lib.Math.max.name Lib.Math.max.code 2 (some .int), Cond.methodLink RX4 119 yX4_unitsOf, Cond.instanceMethod yX4_unitsOf, Cond.selects RX4 yX4_unitsOf yX4_unitsOf, Cond.code yX4_unitsOf cX4_unitsOf 2 (some .int), Cond.methodLink RX4 82 yX1_lengthOf, Cond.instanceMethod yX1_lengthOf, Cond.selects RX1 yX1_lengthOf yX1_lengthOf, Cond.initialized RX1, Cond.code yX1_lengthOf cX1_lengthOf 2 (some .int)]
def wsX6_sizeBy_r2 : List Cond := [Cond.fieldLink RX1 15 "NamePlate$Names" "lengths" "[I", Cond.methodLink RX4 113 yX4_unitsBefore, Cond.instanceMethod yX4_unitsBefore, Cond.selects RX4 yX4_unitsBefore yX4_unitsBefore, Cond.code yX4_unitsBefore cX4_unitsBefore 5 (some .int), Cond.methodLink RX4 85 yX1_codeAt, Cond.instanceMethod yX1_codeAt, Cond.selects RX1 yX1_codeAt yX1_codeAt, Cond.code yX1_codeAt cX1_codeAt 4 (some .char), Cond.fieldLink RX1 9 "NamePlate$Names" "codes" "[C", Cond.methodLink RX4 111 yX3_width, Cond.static yX3_width, Cond.initialized RX3, Cond.code yX3_width cX3_width 1 (some .int), Cond.methodLink RX4 108 yX4_spaceBehind, Cond.instanceMethod yX4_spaceBehind, Cond.selects RX4 yX4_spaceBehind yX4_spaceBehind, Cond.code yX4_spaceBehind cX4_spaceBehind 6 (some .int), Cond.fieldLink RX4 21 "NamePlate$State" "pairs" "LNamePlate$Pairs;", Cond.methodLink RX4 89 yX2_placeOf, Cond.instanceMethod yX2_placeOf, Cond.selects RX2 yX2_placeOf yX2_placeOf, Cond.initialized RX2, Cond.code yX2_placeOf cX2_placeOf 4 (some .int)]
def wsX6_sizeBy_r3 : List Cond := [Cond.fieldLink RX2 22 "NamePlate$Pairs" "number" "I", Cond.fieldLink RX2 9 "NamePlate$Pairs" "lefts" "[C", Cond.fieldLink RX2 15 "NamePlate$Pairs" "rights" "[C", Cond.methodLink RX4 93 yX2_adjustmentAt, Cond.instanceMethod yX2_adjustmentAt, Cond.selects RX2 yX2_adjustmentAt yX2_adjustmentAt, Cond.code yX2_adjustmentAt cX2_adjustmentAt 2 (some .int), Cond.fieldLink RX2 18 "NamePlate$Pairs" "adjustments" "[I", Cond.methodLink RX4 96 yX3_openness, Cond.static yX3_openness, Cond.code yX3_openness cX3_openness 1 (some .int), Cond.methodLink RX6 225 yX4_greatestSize, Cond.instanceMethod yX4_greatestSize, Cond.selects RX4 yX4_greatestSize yX4_greatestSize, Cond.code yX4_greatestSize cX4_greatestSize 7 (some .int), Cond.fieldLink RX4 32 "NamePlate$State" "margin" "I", Cond.methodLink RX4 145 yX4_rowsFor, Cond.instanceMethod yX4_rowsFor, Cond.selects RX4 yX4_rowsFor yX4_rowsFor, Cond.code yX4_rowsFor cX4_rowsFor 2 (some .int), Cond.fieldLink RX4 35 "NamePlate$State" "columns" "I", Cond.methodLink RX4 122 yX4_quotient, Cond.static yX4_quotient, Cond.code yX4_quotient cX4_quotient 2 (some .int)]
def wsX6_sizeBy_r4 : List Cond := [Cond.methodLink RX4 160 yJ9_floorDiv_7cf53, Cond.static yJ9_floorDiv_7cf53, Cond.initialized RJ9, Cond.code yJ9_floorDiv_7cf53 cJ9_floorDiv_7cf53 3 (some .int), Cond.methodLink RX4 131 yX4_columnWidth, Cond.instanceMethod yX4_columnWidth, Cond.selects RX4 yX4_columnWidth yX4_columnWidth, Cond.code yX4_columnWidth cX4_columnWidth 2 (some .int)]
def wsX6_sizeBy : List Cond := .code yX6_sizeBy cX6_sizeBy 3 (some .int) :: ((wsX6_sizeBy_r1 ++ (wsX6_sizeBy_r2 ++ (wsX6_sizeBy_r3 ++ wsX6_sizeBy_r4))) ++ wsX60 ++ wsX40 ++ wsX10 ++ wsX20)
def wsX6_sizeWithout_r1 : List Cond := [Cond.fieldLink RX6 10 "NamePlate" "now" "LNamePlate$State;", Cond.methodLink RX6 122 yX1_isTaken, Cond.instanceMethod yX1_isTaken, Cond.selects RX1 yX1_isTaken yX1_isTaken, Cond.initialized RX1, Cond.code yX1_isTaken cX1_isTaken 2 (some .boolean), Cond.fieldLink RX1 19 "NamePlate$Names" "number" "I", Cond.methodLink RX6 222 yX4_mostUnits, Cond.instanceMethod yX4_mostUnits, Cond.selects RX4 yX4_mostUnits yX4_mostUnits, Cond.initialized RX4, Cond.code yX4_mostUnits cX4_mostUnits 4 (some .int), Cond.fieldLink RX4 12 "NamePlate$State" "names" "LNamePlate$Names;", Cond.methodLink RX4 102 Lib.Math.max.name, Cond.static Lib.Math.max.name, Cond.initialized "java/lang/Math", Cond.code Lib.Math.max.name Lib.Math.max.code 2 (some .int), Cond.methodLink RX4 119 yX4_unitsOf, Cond.instanceMethod yX4_unitsOf, Cond.selects RX4 yX4_unitsOf yX4_unitsOf, Cond.code yX4_unitsOf cX4_unitsOf 2 (some .int), Cond.methodLink RX4 82 yX1_lengthOf, Cond.instanceMethod yX1_lengthOf, Cond.selects RX1 yX1_lengthOf yX1_lengthOf]
def wsX6_sizeWithout_r2 : List Cond := [Cond.code yX1_lengthOf cX1_lengthOf 2 (some .int), Cond.fieldLink RX1 15 "NamePlate$Names" "lengths" "[I", Cond.methodLink RX4 113 yX4_unitsBefore, Cond.instanceMethod yX4_unitsBefore, Cond.selects RX4 yX4_unitsBefore yX4_unitsBefore, Cond.code yX4_unitsBefore cX4_unitsBefore 5 (some .int), Cond.methodLink RX4 85 yX1_codeAt, Cond.instanceMethod yX1_codeAt, Cond.selects RX1 yX1_codeAt yX1_codeAt, Cond.code yX1_codeAt cX1_codeAt 4 (some .char), Cond.fieldLink RX1 9 "NamePlate$Names" "codes" "[C", Cond.methodLink RX4 111 yX3_width, Cond.static yX3_width, Cond.initialized RX3, Cond.code yX3_width cX3_width 1 (some .int), Cond.methodLink RX4 108 yX4_spaceBehind, Cond.instanceMethod yX4_spaceBehind, Cond.selects RX4 yX4_spaceBehind yX4_spaceBehind, Cond.code yX4_spaceBehind cX4_spaceBehind 6 (some .int), Cond.fieldLink RX4 21 "NamePlate$State" "pairs" "LNamePlate$Pairs;", Cond.methodLink RX4 89 yX2_placeOf, Cond.instanceMethod yX2_placeOf, Cond.selects RX2 yX2_placeOf yX2_placeOf, Cond.initialized RX2]
def wsX6_sizeWithout_r3 : List Cond := [Cond.code yX2_placeOf cX2_placeOf 4 (some .int), Cond.fieldLink RX2 22 "NamePlate$Pairs" "number" "I", Cond.fieldLink RX2 9 "NamePlate$Pairs" "lefts" "[C", Cond.fieldLink RX2 15 "NamePlate$Pairs" "rights" "[C", Cond.methodLink RX4 93 yX2_adjustmentAt, Cond.instanceMethod yX2_adjustmentAt, Cond.selects RX2 yX2_adjustmentAt yX2_adjustmentAt, Cond.code yX2_adjustmentAt cX2_adjustmentAt 2 (some .int), Cond.fieldLink RX2 18 "NamePlate$Pairs" "adjustments" "[I", Cond.methodLink RX4 96 yX3_openness, Cond.static yX3_openness, Cond.code yX3_openness cX3_openness 1 (some .int), Cond.methodLink RX6 225 yX4_greatestSize, Cond.instanceMethod yX4_greatestSize, Cond.selects RX4 yX4_greatestSize yX4_greatestSize, Cond.code yX4_greatestSize cX4_greatestSize 7 (some .int), Cond.fieldLink RX4 32 "NamePlate$State" "margin" "I", Cond.methodLink RX4 145 yX4_rowsFor, Cond.instanceMethod yX4_rowsFor, Cond.selects RX4 yX4_rowsFor yX4_rowsFor, Cond.code yX4_rowsFor cX4_rowsFor 2 (some .int), Cond.fieldLink RX4 35 "NamePlate$State" "columns" "I", Cond.methodLink RX4 122 yX4_quotient, Cond.static yX4_quotient]
def wsX6_sizeWithout_r4 : List Cond := [Cond.code yX4_quotient cX4_quotient 2 (some .int), Cond.methodLink RX4 160 yJ9_floorDiv_7cf53, Cond.static yJ9_floorDiv_7cf53, Cond.initialized RJ9, Cond.code yJ9_floorDiv_7cf53 cJ9_floorDiv_7cf53 3 (some .int), Cond.methodLink RX4 131 yX4_columnWidth, Cond.instanceMethod yX4_columnWidth, Cond.selects RX4 yX4_columnWidth yX4_columnWidth, Cond.code yX4_columnWidth cX4_columnWidth 2 (some .int)]
def wsX6_sizeWithout : List Cond := .code yX6_sizeWithout cX6_sizeWithout 2 (some .int) :: ((wsX6_sizeWithout_r1 ++ (wsX6_sizeWithout_r2 ++ (wsX6_sizeWithout_r3 ++ wsX6_sizeWithout_r4))) ++ wsX60 ++ wsX40 ++ wsX10 ++ wsX20)
def wsX6_leastWidth_r1 : List Cond := [Cond.fieldLink RX6 10 "NamePlate" "now" "LNamePlate$State;", Cond.methodLink RX6 234 Lib.Math.max.name, Cond.static Lib.Math.max.name, Cond.initialized "java/lang/Math", Cond.code Lib.Math.max.name Lib.Math.max.code 2 (some .int), Cond.methodLink RX6 222 yX4_mostUnits, Cond.instanceMethod yX4_mostUnits, Cond.selects RX4 yX4_mostUnits yX4_mostUnits, Cond.initialized RX4, Cond.code yX4_mostUnits cX4_mostUnits 4 (some .int), Cond.fieldLink RX4 12 "NamePlate$State" "names" "LNamePlate$Names;", Cond.methodLink RX4 102 Lib.Math.max.name, Cond.methodLink RX4 119 yX4_unitsOf, Cond.instanceMethod yX4_unitsOf, Cond.selects RX4 yX4_unitsOf yX4_unitsOf, Cond.code yX4_unitsOf cX4_unitsOf 2 (some .int), Cond.methodLink RX4 82 yX1_lengthOf, Cond.instanceMethod yX1_lengthOf, Cond.selects RX1 yX1_lengthOf yX1_lengthOf, Cond.initialized RX1, Cond.code yX1_lengthOf cX1_lengthOf 2 (some .int), Cond.fieldLink RX1 15 "NamePlate$Names" "lengths" "[I", Cond.methodLink RX4 113 yX4_unitsBefore, Cond.instanceMethod yX4_unitsBefore]
def wsX6_leastWidth_r2 : List Cond := [Cond.selects RX4 yX4_unitsBefore yX4_unitsBefore, Cond.code yX4_unitsBefore cX4_unitsBefore 5 (some .int), Cond.methodLink RX4 85 yX1_codeAt, Cond.instanceMethod yX1_codeAt, Cond.selects RX1 yX1_codeAt yX1_codeAt, Cond.code yX1_codeAt cX1_codeAt 4 (some .char), Cond.fieldLink RX1 9 "NamePlate$Names" "codes" "[C", Cond.methodLink RX4 111 yX3_width, Cond.static yX3_width, Cond.initialized RX3, Cond.code yX3_width cX3_width 1 (some .int), Cond.methodLink RX4 108 yX4_spaceBehind, Cond.instanceMethod yX4_spaceBehind, Cond.selects RX4 yX4_spaceBehind yX4_spaceBehind, Cond.code yX4_spaceBehind cX4_spaceBehind 6 (some .int), Cond.fieldLink RX4 21 "NamePlate$State" "pairs" "LNamePlate$Pairs;", Cond.methodLink RX4 89 yX2_placeOf, Cond.instanceMethod yX2_placeOf, Cond.selects RX2 yX2_placeOf yX2_placeOf, Cond.initialized RX2, Cond.code yX2_placeOf cX2_placeOf 4 (some .int), Cond.fieldLink RX2 22 "NamePlate$Pairs" "number" "I", Cond.fieldLink RX2 9 "NamePlate$Pairs" "lefts" "[C", Cond.fieldLink RX2 15 "NamePlate$Pairs" "rights" "[C"]
def wsX6_leastWidth_r3 : List Cond := [Cond.methodLink RX4 93 yX2_adjustmentAt, Cond.instanceMethod yX2_adjustmentAt, Cond.selects RX2 yX2_adjustmentAt yX2_adjustmentAt, Cond.code yX2_adjustmentAt cX2_adjustmentAt 2 (some .int), Cond.fieldLink RX2 18 "NamePlate$Pairs" "adjustments" "[I", Cond.methodLink RX4 96 yX3_openness, Cond.static yX3_openness, Cond.code yX3_openness cX3_openness 1 (some .int)]
def wsX6_leastWidth : List Cond := .code yX6_leastWidth cX6_leastWidth 3 (some .int) :: ((wsX6_leastWidth_r1 ++ (wsX6_leastWidth_r2 ++ wsX6_leastWidth_r3)) ++ wsX60 ++ wsX40 ++ wsX10 ++ wsX20)
def wsX6_longest_r1 : List Cond := [Cond.fieldLink RX6 10 "NamePlate" "now" "LNamePlate$State;", Cond.methodLink RX6 222 yX4_mostUnits, Cond.instanceMethod yX4_mostUnits, Cond.selects RX4 yX4_mostUnits yX4_mostUnits, Cond.initialized RX4, Cond.code yX4_mostUnits cX4_mostUnits 4 (some .int), Cond.fieldLink RX4 12 "NamePlate$State" "names" "LNamePlate$Names;", Cond.methodLink RX4 102 Lib.Math.max.name, Cond.static Lib.Math.max.name, Cond.initialized "java/lang/Math", Cond.code Lib.Math.max.name Lib.Math.max.code 2 (some .int), Cond.methodLink RX4 119 yX4_unitsOf, Cond.instanceMethod yX4_unitsOf, Cond.selects RX4 yX4_unitsOf yX4_unitsOf, Cond.code yX4_unitsOf cX4_unitsOf 2 (some .int), Cond.methodLink RX4 82 yX1_lengthOf, Cond.instanceMethod yX1_lengthOf, Cond.selects RX1 yX1_lengthOf yX1_lengthOf, Cond.initialized RX1, Cond.code yX1_lengthOf cX1_lengthOf 2 (some .int), Cond.fieldLink RX1 15 "NamePlate$Names" "lengths" "[I", Cond.methodLink RX4 113 yX4_unitsBefore, Cond.instanceMethod yX4_unitsBefore, Cond.selects RX4 yX4_unitsBefore yX4_unitsBefore]
def wsX6_longest_r2 : List Cond := [Cond.code yX4_unitsBefore cX4_unitsBefore 5 (some .int), Cond.methodLink RX4 85 yX1_codeAt, Cond.instanceMethod yX1_codeAt, Cond.selects RX1 yX1_codeAt yX1_codeAt, Cond.code yX1_codeAt cX1_codeAt 4 (some .char), Cond.fieldLink RX1 9 "NamePlate$Names" "codes" "[C", Cond.methodLink RX4 111 yX3_width, Cond.static yX3_width, Cond.initialized RX3, Cond.code yX3_width cX3_width 1 (some .int), Cond.methodLink RX4 108 yX4_spaceBehind, Cond.instanceMethod yX4_spaceBehind, Cond.selects RX4 yX4_spaceBehind yX4_spaceBehind, Cond.code yX4_spaceBehind cX4_spaceBehind 6 (some .int), Cond.fieldLink RX4 21 "NamePlate$State" "pairs" "LNamePlate$Pairs;", Cond.methodLink RX4 89 yX2_placeOf, Cond.instanceMethod yX2_placeOf, Cond.selects RX2 yX2_placeOf yX2_placeOf, Cond.initialized RX2, Cond.code yX2_placeOf cX2_placeOf 4 (some .int), Cond.fieldLink RX2 22 "NamePlate$Pairs" "number" "I", Cond.fieldLink RX2 9 "NamePlate$Pairs" "lefts" "[C", Cond.fieldLink RX2 15 "NamePlate$Pairs" "rights" "[C", Cond.methodLink RX4 93 yX2_adjustmentAt]
def wsX6_longest_r3 : List Cond := [Cond.instanceMethod yX2_adjustmentAt, Cond.selects RX2 yX2_adjustmentAt yX2_adjustmentAt, Cond.code yX2_adjustmentAt cX2_adjustmentAt 2 (some .int), Cond.fieldLink RX2 18 "NamePlate$Pairs" "adjustments" "[I", Cond.methodLink RX4 96 yX3_openness, Cond.static yX3_openness, Cond.code yX3_openness cX3_openness 1 (some .int), Cond.methodLink RX6 171 yX4_unitsOf]
def wsX6_longest : List Cond := .code yX6_longest cX6_longest 3 (some .int) :: ((wsX6_longest_r1 ++ (wsX6_longest_r2 ++ wsX6_longest_r3)) ++ wsX60 ++ wsX40 ++ wsX10 ++ wsX20)
def wsX6_adjustment_r1 : List Cond := [Cond.fieldLink RX6 10 "NamePlate" "now" "LNamePlate$State;", Cond.methodLink RX6 60 yX3_isKnown, Cond.static yX3_isKnown, Cond.initialized RX3, Cond.code yX3_isKnown cX3_isKnown 1 (some .boolean), Cond.methodLink RX3 7 yX3_isLetter, Cond.static yX3_isLetter, Cond.code yX3_isLetter cX3_isLetter 1 (some .boolean), Cond.methodLink RX3 13 yX3_isMark, Cond.static yX3_isMark, Cond.code yX3_isMark cX3_isMark 1 (some .boolean), Cond.methodLink RX6 70 yX4_adjustmentOf, Cond.instanceMethod yX4_adjustmentOf, Cond.selects RX4 yX4_adjustmentOf yX4_adjustmentOf, Cond.initialized RX4, Cond.code yX4_adjustmentOf cX4_adjustmentOf 3 (some .int), Cond.fieldLink RX4 21 "NamePlate$State" "pairs" "LNamePlate$Pairs;", Cond.methodLink RX4 89 yX2_placeOf, Cond.instanceMethod yX2_placeOf, Cond.selects RX2 yX2_placeOf yX2_placeOf, Cond.initialized RX2, Cond.code yX2_placeOf cX2_placeOf 4 (some .int), Cond.fieldLink RX2 22 "NamePlate$Pairs" "number" "I", Cond.fieldLink RX2 9 "NamePlate$Pairs" "lefts" "[C"]
def wsX6_adjustment_r2 : List Cond := [Cond.fieldLink RX2 15 "NamePlate$Pairs" "rights" "[C", Cond.methodLink RX4 93 yX2_adjustmentAt, Cond.instanceMethod yX2_adjustmentAt, Cond.selects RX2 yX2_adjustmentAt yX2_adjustmentAt, Cond.code yX2_adjustmentAt cX2_adjustmentAt 2 (some .int), Cond.fieldLink RX2 18 "NamePlate$Pairs" "adjustments" "[I"]
def wsX6_adjustment : List Cond := .code yX6_adjustment cX6_adjustment 3 (some .int) :: ((wsX6_adjustment_r1 ++ wsX6_adjustment_r2) ++ wsX60 ++ wsX40 ++ wsX20)
def wsX6_pair : List Cond := .code yX6_pair cX6_pair 3 (some .int) :: ([.fieldLink RX6 10 "NamePlate" "now" "LNamePlate$State;", .methodLink RX6 239 yX2_isPlace, .instanceMethod yX2_isPlace, .selects RX2 yX2_isPlace yX2_isPlace, .initialized RX2, .code yX2_isPlace cX2_isPlace 2 (some .boolean), .fieldLink RX2 22 "NamePlate$Pairs" "number" "I", .methodLink RX6 242 yX2_leftAt, .instanceMethod yX2_leftAt, .selects RX2 yX2_leftAt yX2_leftAt, .code yX2_leftAt cX2_leftAt 2 (some .char), .fieldLink RX2 9 "NamePlate$Pairs" "lefts" "[C", .methodLink RX2 32 yX2_isPlace, .methodLink RX6 245 yX2_rightAt, .instanceMethod yX2_rightAt, .selects RX2 yX2_rightAt yX2_rightAt, .code yX2_rightAt cX2_rightAt 2 (some .char), .fieldLink RX2 15 "NamePlate$Pairs" "rights" "[C", .methodLink RX6 248 yX2_adjustmentAt, .instanceMethod yX2_adjustmentAt, .selects RX2 yX2_adjustmentAt yX2_adjustmentAt, .code yX2_adjustmentAt cX2_adjustmentAt 2 (some .int), .fieldLink RX2 18 "NamePlate$Pairs" "adjustments" "[I"] ++ wsX60 ++ wsX40 ++ wsX20)
def wsX6_count_r1 : List Cond := [Cond.fieldLink RX6 10 "NamePlate" "now" "LNamePlate$State;", Cond.fieldLink RX6 22 "NamePlate" "history" "LNamePlate$History;", Cond.fieldLink RX6 29 "NamePlate" "text" "LNamePlate$Text;", Cond.methodLink RX6 251 yX4_engravedNames, Cond.instanceMethod yX4_engravedNames, Cond.selects RX4 yX4_engravedNames yX4_engravedNames, Cond.initialized RX4, Cond.code yX4_engravedNames cX4_engravedNames 1 (some .int), Cond.fieldLink RX4 38 "NamePlate$State" "engraved" "I", Cond.methodLink RX4 61 yJ6_bitCount_0f7a4, Cond.static yJ6_bitCount_0f7a4, Cond.initialized RJ6, Cond.code yJ6_bitCount_0f7a4 cJ6_bitCount_0f7a4 1 (some .int), Cond.constant RJ6 265 (1431655765), Cond.constant RJ6 266 (858993459), Cond.constant RJ6 267 (252645135), Cond.methodLink RX6 254 yX4_rowsFor, Cond.instanceMethod yX4_rowsFor, Cond.selects RX4 yX4_rowsFor yX4_rowsFor, Cond.code yX4_rowsFor cX4_rowsFor 2 (some .int), Cond.fieldLink RX4 35 "NamePlate$State" "columns" "I", Cond.methodLink RX4 122 yX4_quotient, Cond.static yX4_quotient, Cond.code yX4_quotient cX4_quotient 2 (some .int)]
def wsX6_count_r2 : List Cond := [Cond.methodLink RX4 160 yJ9_floorDiv_7cf53, Cond.static yJ9_floorDiv_7cf53, Cond.initialized RJ9, Cond.code yJ9_floorDiv_7cf53 cJ9_floorDiv_7cf53 3 (some .int)]
def wsX6_count : List Cond := .code yX6_count cX6_count 2 (some .int) :: ((wsX6_count_r1 ++ wsX6_count_r2) ++ wsX60 ++ wsX40 ++ wsX10 ++ wsX20 ++ wsX00 ++ wsX50)
def wsX7_init : List Cond := .code yX7_init cX7_init 1 none :: ([.methodLink RX7 1 objectInit, .instanceMethod objectInit, .code objectInit ⟨#[0xb1]⟩ 1 none, .arrayClass .int, .fieldLink RX7 7 "NamePlateModel" "now" "[I", .fieldLink RX7 13 "NamePlateModel" "history" "[I", .fieldLink RX7 16 "NamePlateModel" "slot" "[I", .arrayClass .char, .fieldLink RX7 19 "NamePlateModel" "text" "[C"] ++ wsX70)
def wsX7_in : List Cond := .code yX7_in cX7_in 3 (some .boolean) :: ([])
def wsX7_record : List Cond := .code yX7_record cX7_record 2 none :: ([.fieldLink RX7 23 "NamePlateModel" "kept" "I", .fieldLink RX7 13 "NamePlateModel" "history" "[I", .fieldLink RX7 7 "NamePlateModel" "now" "[I"] ++ wsX70)
def wsX7_isLetter : List Cond := .code yX7_isLetter cX7_isLetter 1 (some .boolean) :: ([.methodLink RX7 27 yX7_in, .static yX7_in, .initialized RX7, .code yX7_in cX7_in 3 (some .boolean)])
def wsX7_isPoint : List Cond := .code yX7_isPoint cX7_isPoint 1 (some .boolean) :: ([])
def wsX7_wide : List Cond := .code yX7_wide cX7_wide 1 (some .int) :: ([.methodLink RX7 31 yX7_isLetter, .static yX7_isLetter, .initialized RX7, .code yX7_isLetter cX7_isLetter 1 (some .boolean), .methodLink RX7 27 yX7_in, .static yX7_in, .code yX7_in cX7_in 3 (some .boolean)])
def wsX7_open : List Cond := .code yX7_open cX7_open 1 (some .int) :: ([.methodLink RX7 31 yX7_isLetter, .static yX7_isLetter, .initialized RX7, .code yX7_isLetter cX7_isLetter 1 (some .boolean), .methodLink RX7 27 yX7_in, .static yX7_in, .code yX7_in cX7_in 3 (some .boolean)])
def wsX7_ink : List Cond := .code yX7_ink cX7_ink 1 (some .int) :: ([.methodLink RX7 31 yX7_isLetter, .static yX7_isLetter, .initialized RX7, .code yX7_isLetter cX7_isLetter 1 (some .boolean), .methodLink RX7 27 yX7_in, .static yX7_in, .code yX7_in cX7_in 3 (some .boolean)])
def wsX7_placeOf : List Cond := .code yX7_placeOf cX7_placeOf 4 (some .int) :: ([.fieldLink RX7 7 "NamePlateModel" "now" "[I"] ++ wsX70)
def wsX7_adjusted : List Cond := .code yX7_adjusted cX7_adjusted 4 (some .int) :: ([.fieldLink RX7 7 "NamePlateModel" "now" "[I", .methodLink RX7 35 yX7_placeOf, .instanceMethod yX7_placeOf, .selects RX7 yX7_placeOf yX7_placeOf, .initialized RX7, .code yX7_placeOf cX7_placeOf 4 (some .int)] ++ wsX70)
def wsX7_space : List Cond := .code yX7_space cX7_space 4 (some .int) :: ([.methodLink RX7 39 yX7_open, .static yX7_open, .initialized RX7, .code yX7_open cX7_open 1 (some .int), .methodLink RX7 31 yX7_isLetter, .static yX7_isLetter, .code yX7_isLetter cX7_isLetter 1 (some .boolean), .methodLink RX7 27 yX7_in, .static yX7_in, .code yX7_in cX7_in 3 (some .boolean), .methodLink RX7 43 yX7_adjusted, .instanceMethod yX7_adjusted, .selects RX7 yX7_adjusted yX7_adjusted, .code yX7_adjusted cX7_adjusted 4 (some .int), .fieldLink RX7 7 "NamePlateModel" "now" "[I", .methodLink RX7 35 yX7_placeOf, .instanceMethod yX7_placeOf, .selects RX7 yX7_placeOf yX7_placeOf, .code yX7_placeOf cX7_placeOf 4 (some .int)] ++ wsX70)
def wsX7_noSeat : List Cond := .code yX7_noSeat cX7_noSeat 2 (some .boolean) :: ([.fieldLink RX7 7 "NamePlateModel" "now" "[I", .methodLink RX7 27 yX7_in, .static yX7_in, .initialized RX7, .code yX7_in cX7_in 3 (some .boolean)] ++ wsX70)
def wsX7_of : List Cond := .code yX7_of cX7_of 3 (some .int) :: ([.fieldLink RX7 7 "NamePlateModel" "now" "[I"] ++ wsX70)
def wsX7_signOf : List Cond := .code yX7_signOf cX7_signOf 3 (some .int) :: ([.methodLink RX7 46 yX7_of, .instanceMethod yX7_of, .selects RX7 yX7_of yX7_of, .initialized RX7, .code yX7_of cX7_of 3 (some .int), .fieldLink RX7 7 "NamePlateModel" "now" "[I"] ++ wsX70)
def wsX7_isEngraved : List Cond := .code yX7_isEngraved cX7_isEngraved 2 (some .boolean) :: ([.methodLink RX7 46 yX7_of, .instanceMethod yX7_of, .selects RX7 yX7_of yX7_of, .initialized RX7, .code yX7_of cX7_of 3 (some .int), .fieldLink RX7 7 "NamePlateModel" "now" "[I"] ++ wsX70)
def wsX7_engraved : List Cond := .code yX7_engraved cX7_engraved 3 (some .int) :: ([.fieldLink RX7 7 "NamePlateModel" "now" "[I", .methodLink RX7 46 yX7_of, .instanceMethod yX7_of, .selects RX7 yX7_of yX7_of, .initialized RX7, .code yX7_of cX7_of 3 (some .int)] ++ wsX70)
def wsX7_unitsTo_r1 : List Cond := [Cond.methodLink RX7 49 yX7_signOf, Cond.instanceMethod yX7_signOf, Cond.selects RX7 yX7_signOf yX7_signOf, Cond.initialized RX7, Cond.code yX7_signOf cX7_signOf 3 (some .int), Cond.methodLink RX7 46 yX7_of, Cond.instanceMethod yX7_of, Cond.selects RX7 yX7_of yX7_of, Cond.code yX7_of cX7_of 3 (some .int), Cond.fieldLink RX7 7 "NamePlateModel" "now" "[I", Cond.methodLink RX7 52 yX7_wide, Cond.static yX7_wide, Cond.code yX7_wide cX7_wide 1 (some .int), Cond.methodLink RX7 31 yX7_isLetter, Cond.static yX7_isLetter, Cond.code yX7_isLetter cX7_isLetter 1 (some .boolean), Cond.methodLink RX7 27 yX7_in, Cond.static yX7_in, Cond.code yX7_in cX7_in 3 (some .boolean), Cond.methodLink RX7 55 yX7_space, Cond.instanceMethod yX7_space, Cond.selects RX7 yX7_space yX7_space, Cond.code yX7_space cX7_space 4 (some .int), Cond.methodLink RX7 39 yX7_open]
def wsX7_unitsTo_r2 : List Cond := [Cond.static yX7_open, Cond.code yX7_open cX7_open 1 (some .int), Cond.methodLink RX7 43 yX7_adjusted, Cond.instanceMethod yX7_adjusted, Cond.selects RX7 yX7_adjusted yX7_adjusted, Cond.code yX7_adjusted cX7_adjusted 4 (some .int), Cond.methodLink RX7 35 yX7_placeOf, Cond.instanceMethod yX7_placeOf, Cond.selects RX7 yX7_placeOf yX7_placeOf, Cond.code yX7_placeOf cX7_placeOf 4 (some .int)]
def wsX7_unitsTo : List Cond := .code yX7_unitsTo cX7_unitsTo 5 (some .int) :: ((wsX7_unitsTo_r1 ++ wsX7_unitsTo_r2) ++ wsX70)
def wsX7_units_r1 : List Cond := [Cond.methodLink RX7 46 yX7_of, Cond.instanceMethod yX7_of, Cond.selects RX7 yX7_of yX7_of, Cond.initialized RX7, Cond.code yX7_of cX7_of 3 (some .int), Cond.fieldLink RX7 7 "NamePlateModel" "now" "[I", Cond.methodLink RX7 58 yX7_unitsTo, Cond.instanceMethod yX7_unitsTo, Cond.selects RX7 yX7_unitsTo yX7_unitsTo, Cond.code yX7_unitsTo cX7_unitsTo 5 (some .int), Cond.methodLink RX7 49 yX7_signOf, Cond.instanceMethod yX7_signOf, Cond.selects RX7 yX7_signOf yX7_signOf, Cond.code yX7_signOf cX7_signOf 3 (some .int), Cond.methodLink RX7 52 yX7_wide, Cond.static yX7_wide, Cond.code yX7_wide cX7_wide 1 (some .int), Cond.methodLink RX7 31 yX7_isLetter, Cond.static yX7_isLetter, Cond.code yX7_isLetter cX7_isLetter 1 (some .boolean), Cond.methodLink RX7 27 yX7_in, Cond.static yX7_in, Cond.code yX7_in cX7_in 3 (some .boolean), Cond.methodLink RX7 55 yX7_space]
def wsX7_units_r2 : List Cond := [Cond.instanceMethod yX7_space, Cond.selects RX7 yX7_space yX7_space, Cond.code yX7_space cX7_space 4 (some .int), Cond.methodLink RX7 39 yX7_open, Cond.static yX7_open, Cond.code yX7_open cX7_open 1 (some .int), Cond.methodLink RX7 43 yX7_adjusted, Cond.instanceMethod yX7_adjusted, Cond.selects RX7 yX7_adjusted yX7_adjusted, Cond.code yX7_adjusted cX7_adjusted 4 (some .int), Cond.methodLink RX7 35 yX7_placeOf, Cond.instanceMethod yX7_placeOf, Cond.selects RX7 yX7_placeOf yX7_placeOf, Cond.code yX7_placeOf cX7_placeOf 4 (some .int)]
def wsX7_units : List Cond := .code yX7_units cX7_units 3 (some .int) :: ((wsX7_units_r1 ++ wsX7_units_r2) ++ wsX70)
def wsX7_inkOf : List Cond := .code yX7_inkOf cX7_inkOf 4 (some .int) :: ([.methodLink RX7 46 yX7_of, .instanceMethod yX7_of, .selects RX7 yX7_of yX7_of, .initialized RX7, .code yX7_of cX7_of 3 (some .int), .fieldLink RX7 7 "NamePlateModel" "now" "[I", .methodLink RX7 49 yX7_signOf, .instanceMethod yX7_signOf, .selects RX7 yX7_signOf yX7_signOf, .code yX7_signOf cX7_signOf 3 (some .int), .methodLink RX7 61 yX7_ink, .static yX7_ink, .code yX7_ink cX7_ink 1 (some .int), .methodLink RX7 31 yX7_isLetter, .static yX7_isLetter, .code yX7_isLetter cX7_isLetter 1 (some .boolean), .methodLink RX7 27 yX7_in, .static yX7_in, .code yX7_in cX7_in 3 (some .boolean)] ++ wsX70)
def wsX7_columnWide : List Cond := .code yX7_columnWide cX7_columnWide 3 (some .int) :: ([])
def wsX7_column : List Cond := .code yX7_column cX7_column 1 (some .int) :: ([.fieldLink RX7 7 "NamePlateModel" "now" "[I", .methodLink RX7 64 yX7_columnWide, .static yX7_columnWide, .initialized RX7, .code yX7_columnWide cX7_columnWide 3 (some .int)] ++ wsX70)
def wsX7_greatest : List Cond := .code yX7_greatest cX7_greatest 8 (some .int) :: ([.fieldLink RX7 7 "NamePlateModel" "now" "[I", .methodLink RX7 64 yX7_columnWide, .static yX7_columnWide, .initialized RX7, .code yX7_columnWide cX7_columnWide 3 (some .int)] ++ wsX70)
def wsX7_rowsOf : List Cond := .code yX7_rowsOf cX7_rowsOf 2 (some .int) :: ([.fieldLink RX7 7 "NamePlateModel" "now" "[I"] ++ wsX70)
def wsX7_mostUnits_r1 : List Cond := [Cond.fieldLink RX7 7 "NamePlateModel" "now" "[I", Cond.methodLink RX7 68 yX7_units, Cond.instanceMethod yX7_units, Cond.selects RX7 yX7_units yX7_units, Cond.initialized RX7, Cond.code yX7_units cX7_units 3 (some .int), Cond.methodLink RX7 46 yX7_of, Cond.instanceMethod yX7_of, Cond.selects RX7 yX7_of yX7_of, Cond.code yX7_of cX7_of 3 (some .int), Cond.methodLink RX7 58 yX7_unitsTo, Cond.instanceMethod yX7_unitsTo, Cond.selects RX7 yX7_unitsTo yX7_unitsTo, Cond.code yX7_unitsTo cX7_unitsTo 5 (some .int), Cond.methodLink RX7 49 yX7_signOf, Cond.instanceMethod yX7_signOf, Cond.selects RX7 yX7_signOf yX7_signOf, Cond.code yX7_signOf cX7_signOf 3 (some .int), Cond.methodLink RX7 52 yX7_wide, Cond.static yX7_wide, Cond.code yX7_wide cX7_wide 1 (some .int), Cond.methodLink RX7 31 yX7_isLetter, Cond.static yX7_isLetter, Cond.code yX7_isLetter cX7_isLetter 1 (some .boolean)]
def wsX7_mostUnits_r2 : List Cond := [Cond.methodLink RX7 27 yX7_in, Cond.static yX7_in, Cond.code yX7_in cX7_in 3 (some .boolean), Cond.methodLink RX7 55 yX7_space, Cond.instanceMethod yX7_space, Cond.selects RX7 yX7_space yX7_space, Cond.code yX7_space cX7_space 4 (some .int), Cond.methodLink RX7 39 yX7_open, Cond.static yX7_open, Cond.code yX7_open cX7_open 1 (some .int), Cond.methodLink RX7 43 yX7_adjusted, Cond.instanceMethod yX7_adjusted, Cond.selects RX7 yX7_adjusted yX7_adjusted, Cond.code yX7_adjusted cX7_adjusted 4 (some .int), Cond.methodLink RX7 35 yX7_placeOf, Cond.instanceMethod yX7_placeOf, Cond.selects RX7 yX7_placeOf yX7_placeOf, Cond.code yX7_placeOf cX7_placeOf 4 (some .int)]
def wsX7_mostUnits : List Cond := .code yX7_mostUnits cX7_mostUnits 5 (some .int) :: ((wsX7_mostUnits_r1 ++ wsX7_mostUnits_r2) ++ wsX70)
def wsX7_free_r1 : List Cond := [Cond.fieldLink RX7 7 "NamePlateModel" "now" "[I", Cond.methodLink RX7 71 yX7_mostUnits, Cond.instanceMethod yX7_mostUnits, Cond.selects RX7 yX7_mostUnits yX7_mostUnits, Cond.initialized RX7, Cond.code yX7_mostUnits cX7_mostUnits 5 (some .int), Cond.methodLink RX7 68 yX7_units, Cond.instanceMethod yX7_units, Cond.selects RX7 yX7_units yX7_units, Cond.code yX7_units cX7_units 3 (some .int), Cond.methodLink RX7 46 yX7_of, Cond.instanceMethod yX7_of, Cond.selects RX7 yX7_of yX7_of, Cond.code yX7_of cX7_of 3 (some .int), Cond.methodLink RX7 58 yX7_unitsTo, Cond.instanceMethod yX7_unitsTo, Cond.selects RX7 yX7_unitsTo yX7_unitsTo, Cond.code yX7_unitsTo cX7_unitsTo 5 (some .int), Cond.methodLink RX7 49 yX7_signOf, Cond.instanceMethod yX7_signOf, Cond.selects RX7 yX7_signOf yX7_signOf, Cond.code yX7_signOf cX7_signOf 3 (some .int), Cond.methodLink RX7 52 yX7_wide, Cond.static yX7_wide]
def wsX7_free_r2 : List Cond := [Cond.code yX7_wide cX7_wide 1 (some .int), Cond.methodLink RX7 31 yX7_isLetter, Cond.static yX7_isLetter, Cond.code yX7_isLetter cX7_isLetter 1 (some .boolean), Cond.methodLink RX7 27 yX7_in, Cond.static yX7_in, Cond.code yX7_in cX7_in 3 (some .boolean), Cond.methodLink RX7 55 yX7_space, Cond.instanceMethod yX7_space, Cond.selects RX7 yX7_space yX7_space, Cond.code yX7_space cX7_space 4 (some .int), Cond.methodLink RX7 39 yX7_open, Cond.static yX7_open, Cond.code yX7_open cX7_open 1 (some .int), Cond.methodLink RX7 43 yX7_adjusted, Cond.instanceMethod yX7_adjusted, Cond.selects RX7 yX7_adjusted yX7_adjusted, Cond.code yX7_adjusted cX7_adjusted 4 (some .int), Cond.methodLink RX7 35 yX7_placeOf, Cond.instanceMethod yX7_placeOf, Cond.selects RX7 yX7_placeOf yX7_placeOf, Cond.code yX7_placeOf cX7_placeOf 4 (some .int), Cond.methodLink RX7 74 yX7_rowsOf, Cond.instanceMethod yX7_rowsOf]
def wsX7_free_r3 : List Cond := [Cond.selects RX7 yX7_rowsOf yX7_rowsOf, Cond.code yX7_rowsOf cX7_rowsOf 2 (some .int), Cond.methodLink RX7 77 yX7_greatest, Cond.instanceMethod yX7_greatest, Cond.selects RX7 yX7_greatest yX7_greatest, Cond.code yX7_greatest cX7_greatest 8 (some .int), Cond.methodLink RX7 64 yX7_columnWide, Cond.static yX7_columnWide, Cond.code yX7_columnWide cX7_columnWide 3 (some .int)]
def wsX7_free : List Cond := .code yX7_free cX7_free 3 (some .int) :: ((wsX7_free_r1 ++ (wsX7_free_r2 ++ wsX7_free_r3)) ++ wsX70)
def wsX7_size_r1 : List Cond := [Cond.fieldLink RX7 7 "NamePlateModel" "now" "[I", Cond.methodLink RX7 81 yX7_engraved, Cond.instanceMethod yX7_engraved, Cond.selects RX7 yX7_engraved yX7_engraved, Cond.initialized RX7, Cond.code yX7_engraved cX7_engraved 3 (some .int), Cond.methodLink RX7 46 yX7_of, Cond.instanceMethod yX7_of, Cond.selects RX7 yX7_of yX7_of, Cond.code yX7_of cX7_of 3 (some .int), Cond.methodLink RX7 85 yX7_free, Cond.instanceMethod yX7_free, Cond.selects RX7 yX7_free yX7_free, Cond.code yX7_free cX7_free 3 (some .int), Cond.methodLink RX7 71 yX7_mostUnits, Cond.instanceMethod yX7_mostUnits, Cond.selects RX7 yX7_mostUnits yX7_mostUnits, Cond.code yX7_mostUnits cX7_mostUnits 5 (some .int), Cond.methodLink RX7 68 yX7_units, Cond.instanceMethod yX7_units, Cond.selects RX7 yX7_units yX7_units, Cond.code yX7_units cX7_units 3 (some .int), Cond.methodLink RX7 58 yX7_unitsTo, Cond.instanceMethod yX7_unitsTo]
def wsX7_size_r2 : List Cond := [Cond.selects RX7 yX7_unitsTo yX7_unitsTo, Cond.code yX7_unitsTo cX7_unitsTo 5 (some .int), Cond.methodLink RX7 49 yX7_signOf, Cond.instanceMethod yX7_signOf, Cond.selects RX7 yX7_signOf yX7_signOf, Cond.code yX7_signOf cX7_signOf 3 (some .int), Cond.methodLink RX7 52 yX7_wide, Cond.static yX7_wide, Cond.code yX7_wide cX7_wide 1 (some .int), Cond.methodLink RX7 31 yX7_isLetter, Cond.static yX7_isLetter, Cond.code yX7_isLetter cX7_isLetter 1 (some .boolean), Cond.methodLink RX7 27 yX7_in, Cond.static yX7_in, Cond.code yX7_in cX7_in 3 (some .boolean), Cond.methodLink RX7 55 yX7_space, Cond.instanceMethod yX7_space, Cond.selects RX7 yX7_space yX7_space, Cond.code yX7_space cX7_space 4 (some .int), Cond.methodLink RX7 39 yX7_open, Cond.static yX7_open, Cond.code yX7_open cX7_open 1 (some .int), Cond.methodLink RX7 43 yX7_adjusted, Cond.instanceMethod yX7_adjusted]
def wsX7_size_r3 : List Cond := [Cond.selects RX7 yX7_adjusted yX7_adjusted, Cond.code yX7_adjusted cX7_adjusted 4 (some .int), Cond.methodLink RX7 35 yX7_placeOf, Cond.instanceMethod yX7_placeOf, Cond.selects RX7 yX7_placeOf yX7_placeOf, Cond.code yX7_placeOf cX7_placeOf 4 (some .int), Cond.methodLink RX7 74 yX7_rowsOf, Cond.instanceMethod yX7_rowsOf, Cond.selects RX7 yX7_rowsOf yX7_rowsOf, Cond.code yX7_rowsOf cX7_rowsOf 2 (some .int), Cond.methodLink RX7 77 yX7_greatest, Cond.instanceMethod yX7_greatest, Cond.selects RX7 yX7_greatest yX7_greatest, Cond.code yX7_greatest cX7_greatest 8 (some .int), Cond.methodLink RX7 64 yX7_columnWide, Cond.static yX7_columnWide, Cond.code yX7_columnWide cX7_columnWide 3 (some .int)]
def wsX7_size : List Cond := .code yX7_size cX7_size 1 (some .int) :: ((wsX7_size_r1 ++ (wsX7_size_r2 ++ wsX7_size_r3)) ++ wsX70)
def wsX7_rowOf : List Cond := .code yX7_rowOf cX7_rowOf 2 (some .int) :: ([.fieldLink RX7 7 "NamePlateModel" "now" "[I"] ++ wsX70)
def wsX7_columnBegin : List Cond := .code yX7_columnBegin cX7_columnBegin 2 (some .int) :: ([.fieldLink RX7 7 "NamePlateModel" "now" "[I", .methodLink RX7 88 yX7_column, .instanceMethod yX7_column, .selects RX7 yX7_column yX7_column, .initialized RX7, .code yX7_column cX7_column 1 (some .int), .methodLink RX7 64 yX7_columnWide, .static yX7_columnWide, .code yX7_columnWide cX7_columnWide 3 (some .int)] ++ wsX70)
def wsX7_fits_r1 : List Cond := [Cond.fieldLink RX7 7 "NamePlateModel" "now" "[I", Cond.methodLink RX7 68 yX7_units, Cond.instanceMethod yX7_units, Cond.selects RX7 yX7_units yX7_units, Cond.initialized RX7, Cond.code yX7_units cX7_units 3 (some .int), Cond.methodLink RX7 46 yX7_of, Cond.instanceMethod yX7_of, Cond.selects RX7 yX7_of yX7_of, Cond.code yX7_of cX7_of 3 (some .int), Cond.methodLink RX7 58 yX7_unitsTo, Cond.instanceMethod yX7_unitsTo, Cond.selects RX7 yX7_unitsTo yX7_unitsTo, Cond.code yX7_unitsTo cX7_unitsTo 5 (some .int), Cond.methodLink RX7 49 yX7_signOf, Cond.instanceMethod yX7_signOf, Cond.selects RX7 yX7_signOf yX7_signOf, Cond.code yX7_signOf cX7_signOf 3 (some .int), Cond.methodLink RX7 52 yX7_wide, Cond.static yX7_wide, Cond.code yX7_wide cX7_wide 1 (some .int), Cond.methodLink RX7 31 yX7_isLetter, Cond.static yX7_isLetter, Cond.code yX7_isLetter cX7_isLetter 1 (some .boolean)]
def wsX7_fits_r2 : List Cond := [Cond.methodLink RX7 27 yX7_in, Cond.static yX7_in, Cond.code yX7_in cX7_in 3 (some .boolean), Cond.methodLink RX7 55 yX7_space, Cond.instanceMethod yX7_space, Cond.selects RX7 yX7_space yX7_space, Cond.code yX7_space cX7_space 4 (some .int), Cond.methodLink RX7 39 yX7_open, Cond.static yX7_open, Cond.code yX7_open cX7_open 1 (some .int), Cond.methodLink RX7 43 yX7_adjusted, Cond.instanceMethod yX7_adjusted, Cond.selects RX7 yX7_adjusted yX7_adjusted, Cond.code yX7_adjusted cX7_adjusted 4 (some .int), Cond.methodLink RX7 35 yX7_placeOf, Cond.instanceMethod yX7_placeOf, Cond.selects RX7 yX7_placeOf yX7_placeOf, Cond.code yX7_placeOf cX7_placeOf 4 (some .int), Cond.methodLink RX7 88 yX7_column, Cond.instanceMethod yX7_column, Cond.selects RX7 yX7_column yX7_column, Cond.code yX7_column cX7_column 1 (some .int), Cond.methodLink RX7 64 yX7_columnWide, Cond.static yX7_columnWide]
def wsX7_fits_r3 : List Cond := [Cond.code yX7_columnWide cX7_columnWide 3 (some .int), Cond.methodLink RX7 91 yX7_rowOf, Cond.instanceMethod yX7_rowOf, Cond.selects RX7 yX7_rowOf yX7_rowOf, Cond.code yX7_rowOf cX7_rowOf 2 (some .int)]
def wsX7_fits : List Cond := .code yX7_fits cX7_fits 3 (some .boolean) :: ((wsX7_fits_r1 ++ (wsX7_fits_r2 ++ wsX7_fits_r3)) ++ wsX70)
def wsX7_down : List Cond := .code yX7_down cX7_down 3 (some .int) :: ([])
def wsX7_begin_r1 : List Cond := [Cond.methodLink RX7 94 yX7_inkOf, Cond.instanceMethod yX7_inkOf, Cond.selects RX7 yX7_inkOf yX7_inkOf, Cond.initialized RX7, Cond.code yX7_inkOf cX7_inkOf 4 (some .int), Cond.methodLink RX7 46 yX7_of, Cond.instanceMethod yX7_of, Cond.selects RX7 yX7_of yX7_of, Cond.code yX7_of cX7_of 3 (some .int), Cond.fieldLink RX7 7 "NamePlateModel" "now" "[I", Cond.methodLink RX7 49 yX7_signOf, Cond.instanceMethod yX7_signOf, Cond.selects RX7 yX7_signOf yX7_signOf, Cond.code yX7_signOf cX7_signOf 3 (some .int), Cond.methodLink RX7 61 yX7_ink, Cond.static yX7_ink, Cond.code yX7_ink cX7_ink 1 (some .int), Cond.methodLink RX7 31 yX7_isLetter, Cond.static yX7_isLetter, Cond.code yX7_isLetter cX7_isLetter 1 (some .boolean), Cond.methodLink RX7 27 yX7_in, Cond.static yX7_in, Cond.code yX7_in cX7_in 3 (some .boolean), Cond.methodLink RX7 58 yX7_unitsTo]
def wsX7_begin_r2 : List Cond := [Cond.instanceMethod yX7_unitsTo, Cond.selects RX7 yX7_unitsTo yX7_unitsTo, Cond.code yX7_unitsTo cX7_unitsTo 5 (some .int), Cond.methodLink RX7 52 yX7_wide, Cond.static yX7_wide, Cond.code yX7_wide cX7_wide 1 (some .int), Cond.methodLink RX7 55 yX7_space, Cond.instanceMethod yX7_space, Cond.selects RX7 yX7_space yX7_space, Cond.code yX7_space cX7_space 4 (some .int), Cond.methodLink RX7 39 yX7_open, Cond.static yX7_open, Cond.code yX7_open cX7_open 1 (some .int), Cond.methodLink RX7 43 yX7_adjusted, Cond.instanceMethod yX7_adjusted, Cond.selects RX7 yX7_adjusted yX7_adjusted, Cond.code yX7_adjusted cX7_adjusted 4 (some .int), Cond.methodLink RX7 35 yX7_placeOf, Cond.instanceMethod yX7_placeOf, Cond.selects RX7 yX7_placeOf yX7_placeOf, Cond.code yX7_placeOf cX7_placeOf 4 (some .int), Cond.methodLink RX7 97 yX7_columnBegin, Cond.instanceMethod yX7_columnBegin, Cond.selects RX7 yX7_columnBegin yX7_columnBegin]
def wsX7_begin_r3 : List Cond := [Cond.code yX7_columnBegin cX7_columnBegin 2 (some .int), Cond.methodLink RX7 88 yX7_column, Cond.instanceMethod yX7_column, Cond.selects RX7 yX7_column yX7_column, Cond.code yX7_column cX7_column 1 (some .int), Cond.methodLink RX7 64 yX7_columnWide, Cond.static yX7_columnWide, Cond.code yX7_columnWide cX7_columnWide 3 (some .int), Cond.methodLink RX7 100 yX7_down, Cond.static yX7_down, Cond.code yX7_down cX7_down 3 (some .int), Cond.methodLink RX7 68 yX7_units, Cond.instanceMethod yX7_units, Cond.selects RX7 yX7_units yX7_units, Cond.code yX7_units cX7_units 3 (some .int)]
def wsX7_begin : List Cond := .code yX7_begin cX7_begin 8 (some .int) :: ((wsX7_begin_r1 ++ (wsX7_begin_r2 ++ wsX7_begin_r3)) ++ wsX70)
def wsX7_recut : List Cond := .code yX7_recut cX7_recut 5 (some .int) :: ([.fieldLink RX7 7 "NamePlateModel" "now" "[I", .methodLink RX7 27 yX7_in, .static yX7_in, .initialized RX7, .code yX7_in cX7_in 3 (some .boolean), .methodLink RX7 103 yX7_record, .instanceMethod yX7_record, .selects RX7 yX7_record yX7_record, .code yX7_record cX7_record 2 none, .fieldLink RX7 23 "NamePlateModel" "kept" "I", .fieldLink RX7 13 "NamePlateModel" "history" "[I", .methodLink RX7 81 yX7_engraved, .instanceMethod yX7_engraved, .selects RX7 yX7_engraved yX7_engraved, .code yX7_engraved cX7_engraved 3 (some .int), .methodLink RX7 46 yX7_of, .instanceMethod yX7_of, .selects RX7 yX7_of yX7_of, .code yX7_of cX7_of 3 (some .int)] ++ wsX70)
def wsX7_sets : List Cond := .code yX7_sets cX7_sets 4 (some .int) :: ([.fieldLink RX7 7 "NamePlateModel" "now" "[I", .methodLink RX7 81 yX7_engraved, .instanceMethod yX7_engraved, .selects RX7 yX7_engraved yX7_engraved, .initialized RX7, .code yX7_engraved cX7_engraved 3 (some .int), .methodLink RX7 46 yX7_of, .instanceMethod yX7_of, .selects RX7 yX7_of yX7_of, .code yX7_of cX7_of 3 (some .int), .methodLink RX7 103 yX7_record, .instanceMethod yX7_record, .selects RX7 yX7_record yX7_record, .code yX7_record cX7_record 2 none, .fieldLink RX7 23 "NamePlateModel" "kept" "I", .fieldLink RX7 13 "NamePlateModel" "history" "[I"] ++ wsX70)
def wsX7_setMargin : List Cond := .code yX7_setMargin cX7_setMargin 2 (some .int) :: ([.methodLink RX7 27 yX7_in, .static yX7_in, .initialized RX7, .code yX7_in cX7_in 3 (some .boolean), .methodLink RX7 106 yX7_sets, .instanceMethod yX7_sets, .selects RX7 yX7_sets yX7_sets, .code yX7_sets cX7_sets 4 (some .int), .fieldLink RX7 7 "NamePlateModel" "now" "[I", .methodLink RX7 81 yX7_engraved, .instanceMethod yX7_engraved, .selects RX7 yX7_engraved yX7_engraved, .code yX7_engraved cX7_engraved 3 (some .int), .methodLink RX7 46 yX7_of, .instanceMethod yX7_of, .selects RX7 yX7_of yX7_of, .code yX7_of cX7_of 3 (some .int), .methodLink RX7 103 yX7_record, .instanceMethod yX7_record, .selects RX7 yX7_record yX7_record, .code yX7_record cX7_record 2 none, .fieldLink RX7 23 "NamePlateModel" "kept" "I", .fieldLink RX7 13 "NamePlateModel" "history" "[I"] ++ wsX70)
def wsX7_setColumns : List Cond := .code yX7_setColumns cX7_setColumns 2 (some .int) :: ([.methodLink RX7 27 yX7_in, .static yX7_in, .initialized RX7, .code yX7_in cX7_in 3 (some .boolean), .methodLink RX7 106 yX7_sets, .instanceMethod yX7_sets, .selects RX7 yX7_sets yX7_sets, .code yX7_sets cX7_sets 4 (some .int), .fieldLink RX7 7 "NamePlateModel" "now" "[I", .methodLink RX7 81 yX7_engraved, .instanceMethod yX7_engraved, .selects RX7 yX7_engraved yX7_engraved, .code yX7_engraved cX7_engraved 3 (some .int), .methodLink RX7 46 yX7_of, .instanceMethod yX7_of, .selects RX7 yX7_of yX7_of, .code yX7_of cX7_of 3 (some .int), .methodLink RX7 103 yX7_record, .instanceMethod yX7_record, .selects RX7 yX7_record yX7_record, .code yX7_record cX7_record 2 none, .fieldLink RX7 23 "NamePlateModel" "kept" "I", .fieldLink RX7 13 "NamePlateModel" "history" "[I"] ++ wsX70)
def wsX7_isCut : List Cond := .code yX7_isCut cX7_isCut 5 (some .boolean) :: ([.fieldLink RX7 7 "NamePlateModel" "now" "[I", .methodLink RX7 46 yX7_of, .instanceMethod yX7_of, .selects RX7 yX7_of yX7_of, .initialized RX7, .code yX7_of cX7_of 3 (some .int), .methodLink RX7 109 yX7_isEngraved, .instanceMethod yX7_isEngraved, .selects RX7 yX7_isEngraved yX7_isEngraved, .code yX7_isEngraved cX7_isEngraved 2 (some .boolean), .methodLink RX7 49 yX7_signOf, .instanceMethod yX7_signOf, .selects RX7 yX7_signOf yX7_signOf, .code yX7_signOf cX7_signOf 3 (some .int)] ++ wsX70)
def wsX7_areSigns : List Cond := .code yX7_areSigns cX7_areSigns 2 (some .boolean) :: ([.methodLink RX7 31 yX7_isLetter, .static yX7_isLetter, .initialized RX7, .code yX7_isLetter cX7_isLetter 1 (some .boolean), .methodLink RX7 27 yX7_in, .static yX7_in, .code yX7_in cX7_in 3 (some .boolean), .methodLink RX7 112 yX7_isPoint, .static yX7_isPoint, .code yX7_isPoint cX7_isPoint 1 (some .boolean)])
def wsX7_adjust_r1 : List Cond := [Cond.fieldLink RX7 7 "NamePlateModel" "now" "[I", Cond.methodLink RX7 115 yX7_areSigns, Cond.static yX7_areSigns, Cond.initialized RX7, Cond.code yX7_areSigns cX7_areSigns 2 (some .boolean), Cond.methodLink RX7 31 yX7_isLetter, Cond.static yX7_isLetter, Cond.code yX7_isLetter cX7_isLetter 1 (some .boolean), Cond.methodLink RX7 27 yX7_in, Cond.static yX7_in, Cond.code yX7_in cX7_in 3 (some .boolean), Cond.methodLink RX7 112 yX7_isPoint, Cond.static yX7_isPoint, Cond.code yX7_isPoint cX7_isPoint 1 (some .boolean), Cond.methodLink RX7 119 yX7_isCut, Cond.instanceMethod yX7_isCut, Cond.selects RX7 yX7_isCut yX7_isCut, Cond.code yX7_isCut cX7_isCut 5 (some .boolean), Cond.methodLink RX7 46 yX7_of, Cond.instanceMethod yX7_of, Cond.selects RX7 yX7_of yX7_of, Cond.code yX7_of cX7_of 3 (some .int), Cond.methodLink RX7 109 yX7_isEngraved, Cond.instanceMethod yX7_isEngraved]
def wsX7_adjust_r2 : List Cond := [Cond.selects RX7 yX7_isEngraved yX7_isEngraved, Cond.code yX7_isEngraved cX7_isEngraved 2 (some .boolean), Cond.methodLink RX7 49 yX7_signOf, Cond.instanceMethod yX7_signOf, Cond.selects RX7 yX7_signOf yX7_signOf, Cond.code yX7_signOf cX7_signOf 3 (some .int), Cond.methodLink RX7 43 yX7_adjusted, Cond.instanceMethod yX7_adjusted, Cond.selects RX7 yX7_adjusted yX7_adjusted, Cond.code yX7_adjusted cX7_adjusted 4 (some .int), Cond.methodLink RX7 35 yX7_placeOf, Cond.instanceMethod yX7_placeOf, Cond.selects RX7 yX7_placeOf yX7_placeOf, Cond.code yX7_placeOf cX7_placeOf 4 (some .int), Cond.methodLink RX7 103 yX7_record, Cond.instanceMethod yX7_record, Cond.selects RX7 yX7_record yX7_record, Cond.code yX7_record cX7_record 2 none, Cond.fieldLink RX7 23 "NamePlateModel" "kept" "I", Cond.fieldLink RX7 13 "NamePlateModel" "history" "[I"]
def wsX7_adjust : List Cond := .code yX7_adjust cX7_adjust 7 (some .int) :: ((wsX7_adjust_r1 ++ wsX7_adjust_r2) ++ wsX70)
def wsX7_type : List Cond := .code yX7_type cX7_type 2 (some .int) :: ([.fieldLink RX7 122 "NamePlateModel" "typed" "I", .fieldLink RX7 19 "NamePlateModel" "text" "[C"] ++ wsX70)
def wsX7_clearText : List Cond := .code yX7_clearText cX7_clearText 2 (some .int) :: ([.fieldLink RX7 122 "NamePlateModel" "typed" "I"] ++ wsX70)
def wsX7_faultOf : List Cond := .code yX7_faultOf cX7_faultOf 5 (some .int) :: ([.fieldLink RX7 122 "NamePlateModel" "typed" "I", .fieldLink RX7 19 "NamePlateModel" "text" "[C", .methodLink RX7 31 yX7_isLetter, .static yX7_isLetter, .initialized RX7, .code yX7_isLetter cX7_isLetter 1 (some .boolean), .methodLink RX7 27 yX7_in, .static yX7_in, .code yX7_in cX7_in 3 (some .boolean), .methodLink RX7 112 yX7_isPoint, .static yX7_isPoint, .code yX7_isPoint cX7_isPoint 1 (some .boolean)] ++ wsX70)
def wsX7_namesInText : List Cond := .code yX7_namesInText cX7_namesInText 3 (some .int) :: ([.fieldLink RX7 122 "NamePlateModel" "typed" "I", .fieldLink RX7 19 "NamePlateModel" "text" "[C"] ++ wsX70)
def wsX7_readNames_r1 : List Cond := [Cond.fieldLink RX7 7 "NamePlateModel" "now" "[I", Cond.fieldLink RX7 122 "NamePlateModel" "typed" "I", Cond.fieldLink RX7 19 "NamePlateModel" "text" "[C", Cond.methodLink RX7 125 yX7_faultOf, Cond.instanceMethod yX7_faultOf, Cond.selects RX7 yX7_faultOf yX7_faultOf, Cond.initialized RX7, Cond.code yX7_faultOf cX7_faultOf 5 (some .int), Cond.methodLink RX7 31 yX7_isLetter, Cond.static yX7_isLetter, Cond.code yX7_isLetter cX7_isLetter 1 (some .boolean), Cond.methodLink RX7 27 yX7_in, Cond.static yX7_in, Cond.code yX7_in cX7_in 3 (some .boolean), Cond.methodLink RX7 112 yX7_isPoint, Cond.static yX7_isPoint, Cond.code yX7_isPoint cX7_isPoint 1 (some .boolean), Cond.methodLink RX7 128 yX7_namesInText, Cond.instanceMethod yX7_namesInText, Cond.selects RX7 yX7_namesInText yX7_namesInText, Cond.code yX7_namesInText cX7_namesInText 3 (some .int), Cond.methodLink RX7 103 yX7_record, Cond.instanceMethod yX7_record, Cond.selects RX7 yX7_record yX7_record]
def wsX7_readNames_r2 : List Cond := [Cond.code yX7_record cX7_record 2 none, Cond.fieldLink RX7 23 "NamePlateModel" "kept" "I", Cond.fieldLink RX7 13 "NamePlateModel" "history" "[I"]
def wsX7_readNames : List Cond := .code yX7_readNames cX7_readNames 5 (some .int) :: ((wsX7_readNames_r1 ++ wsX7_readNames_r2) ++ wsX70)
def wsX7_remove : List Cond := .code yX7_remove cX7_remove 3 (some .int) :: ([.fieldLink RX7 7 "NamePlateModel" "now" "[I", .methodLink RX7 131 yX7_noSeat, .instanceMethod yX7_noSeat, .selects RX7 yX7_noSeat yX7_noSeat, .initialized RX7, .code yX7_noSeat cX7_noSeat 2 (some .boolean), .methodLink RX7 27 yX7_in, .static yX7_in, .code yX7_in cX7_in 3 (some .boolean), .methodLink RX7 109 yX7_isEngraved, .instanceMethod yX7_isEngraved, .selects RX7 yX7_isEngraved yX7_isEngraved, .code yX7_isEngraved cX7_isEngraved 2 (some .boolean), .methodLink RX7 46 yX7_of, .instanceMethod yX7_of, .selects RX7 yX7_of yX7_of, .code yX7_of cX7_of 3 (some .int), .methodLink RX7 103 yX7_record, .instanceMethod yX7_record, .selects RX7 yX7_record yX7_record, .code yX7_record cX7_record 2 none, .fieldLink RX7 23 "NamePlateModel" "kept" "I", .fieldLink RX7 13 "NamePlateModel" "history" "[I"] ++ wsX70)
def wsX7_swap_r1 : List Cond := [Cond.fieldLink RX7 7 "NamePlateModel" "now" "[I", Cond.methodLink RX7 131 yX7_noSeat, Cond.instanceMethod yX7_noSeat, Cond.selects RX7 yX7_noSeat yX7_noSeat, Cond.initialized RX7, Cond.code yX7_noSeat cX7_noSeat 2 (some .boolean), Cond.methodLink RX7 27 yX7_in, Cond.static yX7_in, Cond.code yX7_in cX7_in 3 (some .boolean), Cond.methodLink RX7 109 yX7_isEngraved, Cond.instanceMethod yX7_isEngraved, Cond.selects RX7 yX7_isEngraved yX7_isEngraved, Cond.code yX7_isEngraved cX7_isEngraved 2 (some .boolean), Cond.methodLink RX7 46 yX7_of, Cond.instanceMethod yX7_of, Cond.selects RX7 yX7_of yX7_of, Cond.code yX7_of cX7_of 3 (some .int), Cond.methodLink RX7 103 yX7_record, Cond.instanceMethod yX7_record, Cond.selects RX7 yX7_record yX7_record, Cond.code yX7_record cX7_record 2 none, Cond.fieldLink RX7 23 "NamePlateModel" "kept" "I", Cond.fieldLink RX7 13 "NamePlateModel" "history" "[I", Cond.methodLink RX7 134 yX7_size]
def wsX7_swap_r2 : List Cond := [Cond.instanceMethod yX7_size, Cond.selects RX7 yX7_size yX7_size, Cond.code yX7_size cX7_size 1 (some .int), Cond.methodLink RX7 81 yX7_engraved, Cond.instanceMethod yX7_engraved, Cond.selects RX7 yX7_engraved yX7_engraved, Cond.code yX7_engraved cX7_engraved 3 (some .int), Cond.methodLink RX7 85 yX7_free, Cond.instanceMethod yX7_free, Cond.selects RX7 yX7_free yX7_free, Cond.code yX7_free cX7_free 3 (some .int), Cond.methodLink RX7 71 yX7_mostUnits, Cond.instanceMethod yX7_mostUnits, Cond.selects RX7 yX7_mostUnits yX7_mostUnits, Cond.code yX7_mostUnits cX7_mostUnits 5 (some .int), Cond.methodLink RX7 68 yX7_units, Cond.instanceMethod yX7_units, Cond.selects RX7 yX7_units yX7_units, Cond.code yX7_units cX7_units 3 (some .int), Cond.methodLink RX7 58 yX7_unitsTo, Cond.instanceMethod yX7_unitsTo, Cond.selects RX7 yX7_unitsTo yX7_unitsTo, Cond.code yX7_unitsTo cX7_unitsTo 5 (some .int), Cond.methodLink RX7 49 yX7_signOf]
def wsX7_swap_r3 : List Cond := [Cond.instanceMethod yX7_signOf, Cond.selects RX7 yX7_signOf yX7_signOf, Cond.code yX7_signOf cX7_signOf 3 (some .int), Cond.methodLink RX7 52 yX7_wide, Cond.static yX7_wide, Cond.code yX7_wide cX7_wide 1 (some .int), Cond.methodLink RX7 31 yX7_isLetter, Cond.static yX7_isLetter, Cond.code yX7_isLetter cX7_isLetter 1 (some .boolean), Cond.methodLink RX7 55 yX7_space, Cond.instanceMethod yX7_space, Cond.selects RX7 yX7_space yX7_space, Cond.code yX7_space cX7_space 4 (some .int), Cond.methodLink RX7 39 yX7_open, Cond.static yX7_open, Cond.code yX7_open cX7_open 1 (some .int), Cond.methodLink RX7 43 yX7_adjusted, Cond.instanceMethod yX7_adjusted, Cond.selects RX7 yX7_adjusted yX7_adjusted, Cond.code yX7_adjusted cX7_adjusted 4 (some .int), Cond.methodLink RX7 35 yX7_placeOf, Cond.instanceMethod yX7_placeOf, Cond.selects RX7 yX7_placeOf yX7_placeOf, Cond.code yX7_placeOf cX7_placeOf 4 (some .int)]
def wsX7_swap_r4 : List Cond := [Cond.methodLink RX7 74 yX7_rowsOf, Cond.instanceMethod yX7_rowsOf, Cond.selects RX7 yX7_rowsOf yX7_rowsOf, Cond.code yX7_rowsOf cX7_rowsOf 2 (some .int), Cond.methodLink RX7 77 yX7_greatest, Cond.instanceMethod yX7_greatest, Cond.selects RX7 yX7_greatest yX7_greatest, Cond.code yX7_greatest cX7_greatest 8 (some .int), Cond.methodLink RX7 64 yX7_columnWide, Cond.static yX7_columnWide, Cond.code yX7_columnWide cX7_columnWide 3 (some .int)]
def wsX7_swap : List Cond := .code yX7_swap cX7_swap 5 (some .int) :: ((wsX7_swap_r1 ++ (wsX7_swap_r2 ++ (wsX7_swap_r3 ++ wsX7_swap_r4))) ++ wsX70)
def wsX7_engraves : List Cond := .code yX7_engraves cX7_engraves 3 none :: ([.fieldLink RX7 7 "NamePlateModel" "now" "[I"] ++ wsX70)
def wsX7_engrave_r1 : List Cond := [Cond.methodLink RX7 131 yX7_noSeat, Cond.instanceMethod yX7_noSeat, Cond.selects RX7 yX7_noSeat yX7_noSeat, Cond.initialized RX7, Cond.code yX7_noSeat cX7_noSeat 2 (some .boolean), Cond.fieldLink RX7 7 "NamePlateModel" "now" "[I", Cond.methodLink RX7 27 yX7_in, Cond.static yX7_in, Cond.code yX7_in cX7_in 3 (some .boolean), Cond.methodLink RX7 134 yX7_size, Cond.instanceMethod yX7_size, Cond.selects RX7 yX7_size yX7_size, Cond.code yX7_size cX7_size 1 (some .int), Cond.methodLink RX7 81 yX7_engraved, Cond.instanceMethod yX7_engraved, Cond.selects RX7 yX7_engraved yX7_engraved, Cond.code yX7_engraved cX7_engraved 3 (some .int), Cond.methodLink RX7 46 yX7_of, Cond.instanceMethod yX7_of, Cond.selects RX7 yX7_of yX7_of, Cond.code yX7_of cX7_of 3 (some .int), Cond.methodLink RX7 85 yX7_free, Cond.instanceMethod yX7_free, Cond.selects RX7 yX7_free yX7_free]
def wsX7_engrave_r2 : List Cond := [Cond.code yX7_free cX7_free 3 (some .int), Cond.methodLink RX7 71 yX7_mostUnits, Cond.instanceMethod yX7_mostUnits, Cond.selects RX7 yX7_mostUnits yX7_mostUnits, Cond.code yX7_mostUnits cX7_mostUnits 5 (some .int), Cond.methodLink RX7 68 yX7_units, Cond.instanceMethod yX7_units, Cond.selects RX7 yX7_units yX7_units, Cond.code yX7_units cX7_units 3 (some .int), Cond.methodLink RX7 58 yX7_unitsTo, Cond.instanceMethod yX7_unitsTo, Cond.selects RX7 yX7_unitsTo yX7_unitsTo, Cond.code yX7_unitsTo cX7_unitsTo 5 (some .int), Cond.methodLink RX7 49 yX7_signOf, Cond.instanceMethod yX7_signOf, Cond.selects RX7 yX7_signOf yX7_signOf, Cond.code yX7_signOf cX7_signOf 3 (some .int), Cond.methodLink RX7 52 yX7_wide, Cond.static yX7_wide, Cond.code yX7_wide cX7_wide 1 (some .int), Cond.methodLink RX7 31 yX7_isLetter, Cond.static yX7_isLetter, Cond.code yX7_isLetter cX7_isLetter 1 (some .boolean), Cond.methodLink RX7 55 yX7_space]
def wsX7_engrave_r3 : List Cond := [Cond.instanceMethod yX7_space, Cond.selects RX7 yX7_space yX7_space, Cond.code yX7_space cX7_space 4 (some .int), Cond.methodLink RX7 39 yX7_open, Cond.static yX7_open, Cond.code yX7_open cX7_open 1 (some .int), Cond.methodLink RX7 43 yX7_adjusted, Cond.instanceMethod yX7_adjusted, Cond.selects RX7 yX7_adjusted yX7_adjusted, Cond.code yX7_adjusted cX7_adjusted 4 (some .int), Cond.methodLink RX7 35 yX7_placeOf, Cond.instanceMethod yX7_placeOf, Cond.selects RX7 yX7_placeOf yX7_placeOf, Cond.code yX7_placeOf cX7_placeOf 4 (some .int), Cond.methodLink RX7 74 yX7_rowsOf, Cond.instanceMethod yX7_rowsOf, Cond.selects RX7 yX7_rowsOf yX7_rowsOf, Cond.code yX7_rowsOf cX7_rowsOf 2 (some .int), Cond.methodLink RX7 77 yX7_greatest, Cond.instanceMethod yX7_greatest, Cond.selects RX7 yX7_greatest yX7_greatest, Cond.code yX7_greatest cX7_greatest 8 (some .int), Cond.methodLink RX7 64 yX7_columnWide, Cond.static yX7_columnWide]
def wsX7_engrave_r4 : List Cond := [Cond.code yX7_columnWide cX7_columnWide 3 (some .int), Cond.methodLink RX7 137 yX7_fits, Cond.instanceMethod yX7_fits, Cond.selects RX7 yX7_fits yX7_fits, Cond.code yX7_fits cX7_fits 3 (some .boolean), Cond.methodLink RX7 88 yX7_column, Cond.instanceMethod yX7_column, Cond.selects RX7 yX7_column yX7_column, Cond.code yX7_column cX7_column 1 (some .int), Cond.methodLink RX7 91 yX7_rowOf, Cond.instanceMethod yX7_rowOf, Cond.selects RX7 yX7_rowOf yX7_rowOf, Cond.code yX7_rowOf cX7_rowOf 2 (some .int), Cond.methodLink RX7 109 yX7_isEngraved, Cond.instanceMethod yX7_isEngraved, Cond.selects RX7 yX7_isEngraved yX7_isEngraved, Cond.code yX7_isEngraved cX7_isEngraved 2 (some .boolean), Cond.methodLink RX7 103 yX7_record, Cond.instanceMethod yX7_record, Cond.selects RX7 yX7_record yX7_record, Cond.code yX7_record cX7_record 2 none, Cond.fieldLink RX7 23 "NamePlateModel" "kept" "I", Cond.fieldLink RX7 13 "NamePlateModel" "history" "[I", Cond.methodLink RX7 140 yX7_engraves]
def wsX7_engrave_r5 : List Cond := [Cond.instanceMethod yX7_engraves, Cond.selects RX7 yX7_engraves yX7_engraves, Cond.code yX7_engraves cX7_engraves 3 none, Cond.methodLink RX7 144 yX7_begin, Cond.instanceMethod yX7_begin, Cond.selects RX7 yX7_begin yX7_begin, Cond.code yX7_begin cX7_begin 8 (some .int), Cond.methodLink RX7 94 yX7_inkOf, Cond.instanceMethod yX7_inkOf, Cond.selects RX7 yX7_inkOf yX7_inkOf, Cond.code yX7_inkOf cX7_inkOf 4 (some .int), Cond.methodLink RX7 61 yX7_ink, Cond.static yX7_ink, Cond.code yX7_ink cX7_ink 1 (some .int), Cond.methodLink RX7 97 yX7_columnBegin, Cond.instanceMethod yX7_columnBegin, Cond.selects RX7 yX7_columnBegin yX7_columnBegin, Cond.code yX7_columnBegin cX7_columnBegin 2 (some .int), Cond.methodLink RX7 100 yX7_down, Cond.static yX7_down, Cond.code yX7_down cX7_down 3 (some .int)]
def wsX7_engrave : List Cond := .code yX7_engrave cX7_engrave 3 (some .int) :: ((wsX7_engrave_r1 ++ (wsX7_engrave_r2 ++ (wsX7_engrave_r3 ++ (wsX7_engrave_r4 ++ wsX7_engrave_r5)))) ++ wsX70)
def wsX7_engraveAll_r1 : List Cond := [Cond.fieldLink RX7 7 "NamePlateModel" "now" "[I", Cond.methodLink RX7 134 yX7_size, Cond.instanceMethod yX7_size, Cond.selects RX7 yX7_size yX7_size, Cond.initialized RX7, Cond.code yX7_size cX7_size 1 (some .int), Cond.methodLink RX7 81 yX7_engraved, Cond.instanceMethod yX7_engraved, Cond.selects RX7 yX7_engraved yX7_engraved, Cond.code yX7_engraved cX7_engraved 3 (some .int), Cond.methodLink RX7 46 yX7_of, Cond.instanceMethod yX7_of, Cond.selects RX7 yX7_of yX7_of, Cond.code yX7_of cX7_of 3 (some .int), Cond.methodLink RX7 85 yX7_free, Cond.instanceMethod yX7_free, Cond.selects RX7 yX7_free yX7_free, Cond.code yX7_free cX7_free 3 (some .int), Cond.methodLink RX7 71 yX7_mostUnits, Cond.instanceMethod yX7_mostUnits, Cond.selects RX7 yX7_mostUnits yX7_mostUnits, Cond.code yX7_mostUnits cX7_mostUnits 5 (some .int), Cond.methodLink RX7 68 yX7_units, Cond.instanceMethod yX7_units]
def wsX7_engraveAll_r2 : List Cond := [Cond.selects RX7 yX7_units yX7_units, Cond.code yX7_units cX7_units 3 (some .int), Cond.methodLink RX7 58 yX7_unitsTo, Cond.instanceMethod yX7_unitsTo, Cond.selects RX7 yX7_unitsTo yX7_unitsTo, Cond.code yX7_unitsTo cX7_unitsTo 5 (some .int), Cond.methodLink RX7 49 yX7_signOf, Cond.instanceMethod yX7_signOf, Cond.selects RX7 yX7_signOf yX7_signOf, Cond.code yX7_signOf cX7_signOf 3 (some .int), Cond.methodLink RX7 52 yX7_wide, Cond.static yX7_wide, Cond.code yX7_wide cX7_wide 1 (some .int), Cond.methodLink RX7 31 yX7_isLetter, Cond.static yX7_isLetter, Cond.code yX7_isLetter cX7_isLetter 1 (some .boolean), Cond.methodLink RX7 27 yX7_in, Cond.static yX7_in, Cond.code yX7_in cX7_in 3 (some .boolean), Cond.methodLink RX7 55 yX7_space, Cond.instanceMethod yX7_space, Cond.selects RX7 yX7_space yX7_space, Cond.code yX7_space cX7_space 4 (some .int), Cond.methodLink RX7 39 yX7_open]
def wsX7_engraveAll_r3 : List Cond := [Cond.static yX7_open, Cond.code yX7_open cX7_open 1 (some .int), Cond.methodLink RX7 43 yX7_adjusted, Cond.instanceMethod yX7_adjusted, Cond.selects RX7 yX7_adjusted yX7_adjusted, Cond.code yX7_adjusted cX7_adjusted 4 (some .int), Cond.methodLink RX7 35 yX7_placeOf, Cond.instanceMethod yX7_placeOf, Cond.selects RX7 yX7_placeOf yX7_placeOf, Cond.code yX7_placeOf cX7_placeOf 4 (some .int), Cond.methodLink RX7 74 yX7_rowsOf, Cond.instanceMethod yX7_rowsOf, Cond.selects RX7 yX7_rowsOf yX7_rowsOf, Cond.code yX7_rowsOf cX7_rowsOf 2 (some .int), Cond.methodLink RX7 77 yX7_greatest, Cond.instanceMethod yX7_greatest, Cond.selects RX7 yX7_greatest yX7_greatest, Cond.code yX7_greatest cX7_greatest 8 (some .int), Cond.methodLink RX7 64 yX7_columnWide, Cond.static yX7_columnWide, Cond.code yX7_columnWide cX7_columnWide 3 (some .int), Cond.methodLink RX7 109 yX7_isEngraved, Cond.instanceMethod yX7_isEngraved, Cond.selects RX7 yX7_isEngraved yX7_isEngraved]
def wsX7_engraveAll_r4 : List Cond := [Cond.code yX7_isEngraved cX7_isEngraved 2 (some .boolean), Cond.methodLink RX7 137 yX7_fits, Cond.instanceMethod yX7_fits, Cond.selects RX7 yX7_fits yX7_fits, Cond.code yX7_fits cX7_fits 3 (some .boolean), Cond.methodLink RX7 88 yX7_column, Cond.instanceMethod yX7_column, Cond.selects RX7 yX7_column yX7_column, Cond.code yX7_column cX7_column 1 (some .int), Cond.methodLink RX7 91 yX7_rowOf, Cond.instanceMethod yX7_rowOf, Cond.selects RX7 yX7_rowOf yX7_rowOf, Cond.code yX7_rowOf cX7_rowOf 2 (some .int), Cond.methodLink RX7 103 yX7_record, Cond.instanceMethod yX7_record, Cond.selects RX7 yX7_record yX7_record, Cond.code yX7_record cX7_record 2 none, Cond.fieldLink RX7 23 "NamePlateModel" "kept" "I", Cond.fieldLink RX7 13 "NamePlateModel" "history" "[I", Cond.methodLink RX7 140 yX7_engraves, Cond.instanceMethod yX7_engraves, Cond.selects RX7 yX7_engraves yX7_engraves, Cond.code yX7_engraves cX7_engraves 3 none]
def wsX7_engraveAll : List Cond := .code yX7_engraveAll cX7_engraveAll 4 (some .int) :: ((wsX7_engraveAll_r1 ++ (wsX7_engraveAll_r2 ++ (wsX7_engraveAll_r3 ++ wsX7_engraveAll_r4))) ++ wsX70)
def wsX7_undo : List Cond := .code yX7_undo cX7_undo 2 (some .int) :: ([.fieldLink RX7 23 "NamePlateModel" "kept" "I", .fieldLink RX7 7 "NamePlateModel" "now" "[I", .fieldLink RX7 13 "NamePlateModel" "history" "[I"] ++ wsX70)
def wsX7_keep : List Cond := .code yX7_keep cX7_keep 2 (some .int) :: ([.fieldLink RX7 16 "NamePlateModel" "slot" "[I", .fieldLink RX7 7 "NamePlateModel" "now" "[I", .fieldLink RX7 147 "NamePlateModel" "isFilled" "Z"] ++ wsX70)
def wsX7_restore : List Cond := .code yX7_restore cX7_restore 2 (some .int) :: ([.fieldLink RX7 147 "NamePlateModel" "isFilled" "Z", .fieldLink RX7 7 "NamePlateModel" "now" "[I", .fieldLink RX7 16 "NamePlateModel" "slot" "[I", .methodLink RX7 103 yX7_record, .instanceMethod yX7_record, .selects RX7 yX7_record yX7_record, .initialized RX7, .code yX7_record cX7_record 2 none, .fieldLink RX7 23 "NamePlateModel" "kept" "I", .fieldLink RX7 13 "NamePlateModel" "history" "[I"] ++ wsX70)
def wsX7_name_r1 : List Cond := [Cond.fieldLink RX7 7 "NamePlateModel" "now" "[I", Cond.methodLink RX7 131 yX7_noSeat, Cond.instanceMethod yX7_noSeat, Cond.selects RX7 yX7_noSeat yX7_noSeat, Cond.initialized RX7, Cond.code yX7_noSeat cX7_noSeat 2 (some .boolean), Cond.methodLink RX7 27 yX7_in, Cond.static yX7_in, Cond.code yX7_in cX7_in 3 (some .boolean), Cond.methodLink RX7 134 yX7_size, Cond.instanceMethod yX7_size, Cond.selects RX7 yX7_size yX7_size, Cond.code yX7_size cX7_size 1 (some .int), Cond.methodLink RX7 81 yX7_engraved, Cond.instanceMethod yX7_engraved, Cond.selects RX7 yX7_engraved yX7_engraved, Cond.code yX7_engraved cX7_engraved 3 (some .int), Cond.methodLink RX7 46 yX7_of, Cond.instanceMethod yX7_of, Cond.selects RX7 yX7_of yX7_of, Cond.code yX7_of cX7_of 3 (some .int), Cond.methodLink RX7 85 yX7_free, Cond.instanceMethod yX7_free, Cond.selects RX7 yX7_free yX7_free]
def wsX7_name_r2 : List Cond := [Cond.code yX7_free cX7_free 3 (some .int), Cond.methodLink RX7 71 yX7_mostUnits, Cond.instanceMethod yX7_mostUnits, Cond.selects RX7 yX7_mostUnits yX7_mostUnits, Cond.code yX7_mostUnits cX7_mostUnits 5 (some .int), Cond.methodLink RX7 68 yX7_units, Cond.instanceMethod yX7_units, Cond.selects RX7 yX7_units yX7_units, Cond.code yX7_units cX7_units 3 (some .int), Cond.methodLink RX7 58 yX7_unitsTo, Cond.instanceMethod yX7_unitsTo, Cond.selects RX7 yX7_unitsTo yX7_unitsTo, Cond.code yX7_unitsTo cX7_unitsTo 5 (some .int), Cond.methodLink RX7 49 yX7_signOf, Cond.instanceMethod yX7_signOf, Cond.selects RX7 yX7_signOf yX7_signOf, Cond.code yX7_signOf cX7_signOf 3 (some .int), Cond.methodLink RX7 52 yX7_wide, Cond.static yX7_wide, Cond.code yX7_wide cX7_wide 1 (some .int), Cond.methodLink RX7 31 yX7_isLetter, Cond.static yX7_isLetter, Cond.code yX7_isLetter cX7_isLetter 1 (some .boolean), Cond.methodLink RX7 55 yX7_space]
def wsX7_name_r3 : List Cond := [Cond.instanceMethod yX7_space, Cond.selects RX7 yX7_space yX7_space, Cond.code yX7_space cX7_space 4 (some .int), Cond.methodLink RX7 39 yX7_open, Cond.static yX7_open, Cond.code yX7_open cX7_open 1 (some .int), Cond.methodLink RX7 43 yX7_adjusted, Cond.instanceMethod yX7_adjusted, Cond.selects RX7 yX7_adjusted yX7_adjusted, Cond.code yX7_adjusted cX7_adjusted 4 (some .int), Cond.methodLink RX7 35 yX7_placeOf, Cond.instanceMethod yX7_placeOf, Cond.selects RX7 yX7_placeOf yX7_placeOf, Cond.code yX7_placeOf cX7_placeOf 4 (some .int), Cond.methodLink RX7 74 yX7_rowsOf, Cond.instanceMethod yX7_rowsOf, Cond.selects RX7 yX7_rowsOf yX7_rowsOf, Cond.code yX7_rowsOf cX7_rowsOf 2 (some .int), Cond.methodLink RX7 77 yX7_greatest, Cond.instanceMethod yX7_greatest, Cond.selects RX7 yX7_greatest yX7_greatest, Cond.code yX7_greatest cX7_greatest 8 (some .int), Cond.methodLink RX7 64 yX7_columnWide, Cond.static yX7_columnWide]
def wsX7_name_r4 : List Cond := [Cond.code yX7_columnWide cX7_columnWide 3 (some .int), Cond.methodLink RX7 91 yX7_rowOf, Cond.instanceMethod yX7_rowOf, Cond.selects RX7 yX7_rowOf yX7_rowOf, Cond.code yX7_rowOf cX7_rowOf 2 (some .int), Cond.methodLink RX7 144 yX7_begin, Cond.instanceMethod yX7_begin, Cond.selects RX7 yX7_begin yX7_begin, Cond.code yX7_begin cX7_begin 8 (some .int), Cond.methodLink RX7 94 yX7_inkOf, Cond.instanceMethod yX7_inkOf, Cond.selects RX7 yX7_inkOf yX7_inkOf, Cond.code yX7_inkOf cX7_inkOf 4 (some .int), Cond.methodLink RX7 61 yX7_ink, Cond.static yX7_ink, Cond.code yX7_ink cX7_ink 1 (some .int), Cond.methodLink RX7 97 yX7_columnBegin, Cond.instanceMethod yX7_columnBegin, Cond.selects RX7 yX7_columnBegin yX7_columnBegin, Cond.code yX7_columnBegin cX7_columnBegin 2 (some .int), Cond.methodLink RX7 88 yX7_column, Cond.instanceMethod yX7_column, Cond.selects RX7 yX7_column yX7_column, Cond.code yX7_column cX7_column 1 (some .int)]
def wsX7_name_r5 : List Cond := [Cond.methodLink RX7 100 yX7_down, Cond.static yX7_down, Cond.code yX7_down cX7_down 3 (some .int), Cond.methodLink RX7 137 yX7_fits, Cond.instanceMethod yX7_fits, Cond.selects RX7 yX7_fits yX7_fits, Cond.code yX7_fits cX7_fits 3 (some .boolean)]
def wsX7_name : List Cond := .code yX7_name cX7_name 5 (some .int) :: ((wsX7_name_r1 ++ (wsX7_name_r2 ++ (wsX7_name_r3 ++ (wsX7_name_r4 ++ wsX7_name_r5)))) ++ wsX70)
def wsX7_sign_r1 : List Cond := [Cond.methodLink RX7 131 yX7_noSeat, Cond.instanceMethod yX7_noSeat, Cond.selects RX7 yX7_noSeat yX7_noSeat, Cond.initialized RX7, Cond.code yX7_noSeat cX7_noSeat 2 (some .boolean), Cond.fieldLink RX7 7 "NamePlateModel" "now" "[I", Cond.methodLink RX7 27 yX7_in, Cond.static yX7_in, Cond.code yX7_in cX7_in 3 (some .boolean), Cond.methodLink RX7 46 yX7_of, Cond.instanceMethod yX7_of, Cond.selects RX7 yX7_of yX7_of, Cond.code yX7_of cX7_of 3 (some .int), Cond.methodLink RX7 49 yX7_signOf, Cond.instanceMethod yX7_signOf, Cond.selects RX7 yX7_signOf yX7_signOf, Cond.code yX7_signOf cX7_signOf 3 (some .int), Cond.methodLink RX7 55 yX7_space, Cond.instanceMethod yX7_space, Cond.selects RX7 yX7_space yX7_space, Cond.code yX7_space cX7_space 4 (some .int), Cond.methodLink RX7 39 yX7_open, Cond.static yX7_open, Cond.code yX7_open cX7_open 1 (some .int)]
def wsX7_sign_r2 : List Cond := [Cond.methodLink RX7 31 yX7_isLetter, Cond.static yX7_isLetter, Cond.code yX7_isLetter cX7_isLetter 1 (some .boolean), Cond.methodLink RX7 43 yX7_adjusted, Cond.instanceMethod yX7_adjusted, Cond.selects RX7 yX7_adjusted yX7_adjusted, Cond.code yX7_adjusted cX7_adjusted 4 (some .int), Cond.methodLink RX7 35 yX7_placeOf, Cond.instanceMethod yX7_placeOf, Cond.selects RX7 yX7_placeOf yX7_placeOf, Cond.code yX7_placeOf cX7_placeOf 4 (some .int), Cond.methodLink RX7 134 yX7_size, Cond.instanceMethod yX7_size, Cond.selects RX7 yX7_size yX7_size, Cond.code yX7_size cX7_size 1 (some .int), Cond.methodLink RX7 81 yX7_engraved, Cond.instanceMethod yX7_engraved, Cond.selects RX7 yX7_engraved yX7_engraved, Cond.code yX7_engraved cX7_engraved 3 (some .int), Cond.methodLink RX7 85 yX7_free, Cond.instanceMethod yX7_free, Cond.selects RX7 yX7_free yX7_free, Cond.code yX7_free cX7_free 3 (some .int), Cond.methodLink RX7 71 yX7_mostUnits]
def wsX7_sign_r3 : List Cond := [Cond.instanceMethod yX7_mostUnits, Cond.selects RX7 yX7_mostUnits yX7_mostUnits, Cond.code yX7_mostUnits cX7_mostUnits 5 (some .int), Cond.methodLink RX7 68 yX7_units, Cond.instanceMethod yX7_units, Cond.selects RX7 yX7_units yX7_units, Cond.code yX7_units cX7_units 3 (some .int), Cond.methodLink RX7 58 yX7_unitsTo, Cond.instanceMethod yX7_unitsTo, Cond.selects RX7 yX7_unitsTo yX7_unitsTo, Cond.code yX7_unitsTo cX7_unitsTo 5 (some .int), Cond.methodLink RX7 52 yX7_wide, Cond.static yX7_wide, Cond.code yX7_wide cX7_wide 1 (some .int), Cond.methodLink RX7 74 yX7_rowsOf, Cond.instanceMethod yX7_rowsOf, Cond.selects RX7 yX7_rowsOf yX7_rowsOf, Cond.code yX7_rowsOf cX7_rowsOf 2 (some .int), Cond.methodLink RX7 77 yX7_greatest, Cond.instanceMethod yX7_greatest, Cond.selects RX7 yX7_greatest yX7_greatest, Cond.code yX7_greatest cX7_greatest 8 (some .int), Cond.methodLink RX7 64 yX7_columnWide, Cond.static yX7_columnWide]
def wsX7_sign_r4 : List Cond := [Cond.code yX7_columnWide cX7_columnWide 3 (some .int), Cond.methodLink RX7 144 yX7_begin, Cond.instanceMethod yX7_begin, Cond.selects RX7 yX7_begin yX7_begin, Cond.code yX7_begin cX7_begin 8 (some .int), Cond.methodLink RX7 94 yX7_inkOf, Cond.instanceMethod yX7_inkOf, Cond.selects RX7 yX7_inkOf yX7_inkOf, Cond.code yX7_inkOf cX7_inkOf 4 (some .int), Cond.methodLink RX7 61 yX7_ink, Cond.static yX7_ink, Cond.code yX7_ink cX7_ink 1 (some .int), Cond.methodLink RX7 97 yX7_columnBegin, Cond.instanceMethod yX7_columnBegin, Cond.selects RX7 yX7_columnBegin yX7_columnBegin, Cond.code yX7_columnBegin cX7_columnBegin 2 (some .int), Cond.methodLink RX7 88 yX7_column, Cond.instanceMethod yX7_column, Cond.selects RX7 yX7_column yX7_column, Cond.code yX7_column cX7_column 1 (some .int), Cond.methodLink RX7 100 yX7_down, Cond.static yX7_down, Cond.code yX7_down cX7_down 3 (some .int)]
def wsX7_sign : List Cond := .code yX7_sign cX7_sign 6 (some .int) :: ((wsX7_sign_r1 ++ (wsX7_sign_r2 ++ (wsX7_sign_r3 ++ wsX7_sign_r4))) ++ wsX70)
def wsX7_signAt_r1 : List Cond := [Cond.fieldLink RX7 7 "NamePlateModel" "now" "[I", Cond.methodLink RX7 134 yX7_size, Cond.instanceMethod yX7_size, Cond.selects RX7 yX7_size yX7_size, Cond.initialized RX7, Cond.code yX7_size cX7_size 1 (some .int), Cond.methodLink RX7 81 yX7_engraved, Cond.instanceMethod yX7_engraved, Cond.selects RX7 yX7_engraved yX7_engraved, Cond.code yX7_engraved cX7_engraved 3 (some .int), Cond.methodLink RX7 46 yX7_of, Cond.instanceMethod yX7_of, Cond.selects RX7 yX7_of yX7_of, Cond.code yX7_of cX7_of 3 (some .int), Cond.methodLink RX7 85 yX7_free, Cond.instanceMethod yX7_free, Cond.selects RX7 yX7_free yX7_free, Cond.code yX7_free cX7_free 3 (some .int), Cond.methodLink RX7 71 yX7_mostUnits, Cond.instanceMethod yX7_mostUnits, Cond.selects RX7 yX7_mostUnits yX7_mostUnits, Cond.code yX7_mostUnits cX7_mostUnits 5 (some .int), Cond.methodLink RX7 68 yX7_units, Cond.instanceMethod yX7_units]
def wsX7_signAt_r2 : List Cond := [Cond.selects RX7 yX7_units yX7_units, Cond.code yX7_units cX7_units 3 (some .int), Cond.methodLink RX7 58 yX7_unitsTo, Cond.instanceMethod yX7_unitsTo, Cond.selects RX7 yX7_unitsTo yX7_unitsTo, Cond.code yX7_unitsTo cX7_unitsTo 5 (some .int), Cond.methodLink RX7 49 yX7_signOf, Cond.instanceMethod yX7_signOf, Cond.selects RX7 yX7_signOf yX7_signOf, Cond.code yX7_signOf cX7_signOf 3 (some .int), Cond.methodLink RX7 52 yX7_wide, Cond.static yX7_wide, Cond.code yX7_wide cX7_wide 1 (some .int), Cond.methodLink RX7 31 yX7_isLetter, Cond.static yX7_isLetter, Cond.code yX7_isLetter cX7_isLetter 1 (some .boolean), Cond.methodLink RX7 27 yX7_in, Cond.static yX7_in, Cond.code yX7_in cX7_in 3 (some .boolean), Cond.methodLink RX7 55 yX7_space, Cond.instanceMethod yX7_space, Cond.selects RX7 yX7_space yX7_space, Cond.code yX7_space cX7_space 4 (some .int), Cond.methodLink RX7 39 yX7_open]
def wsX7_signAt_r3 : List Cond := [Cond.static yX7_open, Cond.code yX7_open cX7_open 1 (some .int), Cond.methodLink RX7 43 yX7_adjusted, Cond.instanceMethod yX7_adjusted, Cond.selects RX7 yX7_adjusted yX7_adjusted, Cond.code yX7_adjusted cX7_adjusted 4 (some .int), Cond.methodLink RX7 35 yX7_placeOf, Cond.instanceMethod yX7_placeOf, Cond.selects RX7 yX7_placeOf yX7_placeOf, Cond.code yX7_placeOf cX7_placeOf 4 (some .int), Cond.methodLink RX7 74 yX7_rowsOf, Cond.instanceMethod yX7_rowsOf, Cond.selects RX7 yX7_rowsOf yX7_rowsOf, Cond.code yX7_rowsOf cX7_rowsOf 2 (some .int), Cond.methodLink RX7 77 yX7_greatest, Cond.instanceMethod yX7_greatest, Cond.selects RX7 yX7_greatest yX7_greatest, Cond.code yX7_greatest cX7_greatest 8 (some .int), Cond.methodLink RX7 64 yX7_columnWide, Cond.static yX7_columnWide, Cond.code yX7_columnWide cX7_columnWide 3 (some .int), Cond.methodLink RX7 91 yX7_rowOf, Cond.instanceMethod yX7_rowOf, Cond.selects RX7 yX7_rowOf yX7_rowOf]
def wsX7_signAt_r4 : List Cond := [Cond.code yX7_rowOf cX7_rowOf 2 (some .int), Cond.methodLink RX7 144 yX7_begin, Cond.instanceMethod yX7_begin, Cond.selects RX7 yX7_begin yX7_begin, Cond.code yX7_begin cX7_begin 8 (some .int), Cond.methodLink RX7 94 yX7_inkOf, Cond.instanceMethod yX7_inkOf, Cond.selects RX7 yX7_inkOf yX7_inkOf, Cond.code yX7_inkOf cX7_inkOf 4 (some .int), Cond.methodLink RX7 61 yX7_ink, Cond.static yX7_ink, Cond.code yX7_ink cX7_ink 1 (some .int), Cond.methodLink RX7 97 yX7_columnBegin, Cond.instanceMethod yX7_columnBegin, Cond.selects RX7 yX7_columnBegin yX7_columnBegin, Cond.code yX7_columnBegin cX7_columnBegin 2 (some .int), Cond.methodLink RX7 88 yX7_column, Cond.instanceMethod yX7_column, Cond.selects RX7 yX7_column yX7_column, Cond.code yX7_column cX7_column 1 (some .int), Cond.methodLink RX7 100 yX7_down, Cond.static yX7_down, Cond.code yX7_down cX7_down 3 (some .int)]
def wsX7_signAt : List Cond := .code yX7_signAt cX7_signAt 9 (some .int) :: ((wsX7_signAt_r1 ++ (wsX7_signAt_r2 ++ (wsX7_signAt_r3 ++ wsX7_signAt_r4))) ++ wsX70)
def wsX7_sizeBy_r1 : List Cond := [Cond.methodLink RX7 27 yX7_in, Cond.static yX7_in, Cond.initialized RX7, Cond.code yX7_in cX7_in 3 (some .boolean), Cond.methodLink RX7 85 yX7_free, Cond.instanceMethod yX7_free, Cond.selects RX7 yX7_free yX7_free, Cond.code yX7_free cX7_free 3 (some .int), Cond.fieldLink RX7 7 "NamePlateModel" "now" "[I", Cond.methodLink RX7 71 yX7_mostUnits, Cond.instanceMethod yX7_mostUnits, Cond.selects RX7 yX7_mostUnits yX7_mostUnits, Cond.code yX7_mostUnits cX7_mostUnits 5 (some .int), Cond.methodLink RX7 68 yX7_units, Cond.instanceMethod yX7_units, Cond.selects RX7 yX7_units yX7_units, Cond.code yX7_units cX7_units 3 (some .int), Cond.methodLink RX7 46 yX7_of, Cond.instanceMethod yX7_of, Cond.selects RX7 yX7_of yX7_of, Cond.code yX7_of cX7_of 3 (some .int), Cond.methodLink RX7 58 yX7_unitsTo, Cond.instanceMethod yX7_unitsTo, Cond.selects RX7 yX7_unitsTo yX7_unitsTo]
def wsX7_sizeBy_r2 : List Cond := [Cond.code yX7_unitsTo cX7_unitsTo 5 (some .int), Cond.methodLink RX7 49 yX7_signOf, Cond.instanceMethod yX7_signOf, Cond.selects RX7 yX7_signOf yX7_signOf, Cond.code yX7_signOf cX7_signOf 3 (some .int), Cond.methodLink RX7 52 yX7_wide, Cond.static yX7_wide, Cond.code yX7_wide cX7_wide 1 (some .int), Cond.methodLink RX7 31 yX7_isLetter, Cond.static yX7_isLetter, Cond.code yX7_isLetter cX7_isLetter 1 (some .boolean), Cond.methodLink RX7 55 yX7_space, Cond.instanceMethod yX7_space, Cond.selects RX7 yX7_space yX7_space, Cond.code yX7_space cX7_space 4 (some .int), Cond.methodLink RX7 39 yX7_open, Cond.static yX7_open, Cond.code yX7_open cX7_open 1 (some .int), Cond.methodLink RX7 43 yX7_adjusted, Cond.instanceMethod yX7_adjusted, Cond.selects RX7 yX7_adjusted yX7_adjusted, Cond.code yX7_adjusted cX7_adjusted 4 (some .int), Cond.methodLink RX7 35 yX7_placeOf, Cond.instanceMethod yX7_placeOf]
def wsX7_sizeBy_r3 : List Cond := [Cond.selects RX7 yX7_placeOf yX7_placeOf, Cond.code yX7_placeOf cX7_placeOf 4 (some .int), Cond.methodLink RX7 74 yX7_rowsOf, Cond.instanceMethod yX7_rowsOf, Cond.selects RX7 yX7_rowsOf yX7_rowsOf, Cond.code yX7_rowsOf cX7_rowsOf 2 (some .int), Cond.methodLink RX7 77 yX7_greatest, Cond.instanceMethod yX7_greatest, Cond.selects RX7 yX7_greatest yX7_greatest, Cond.code yX7_greatest cX7_greatest 8 (some .int), Cond.methodLink RX7 64 yX7_columnWide, Cond.static yX7_columnWide, Cond.code yX7_columnWide cX7_columnWide 3 (some .int)]
def wsX7_sizeBy : List Cond := .code yX7_sizeBy cX7_sizeBy 3 (some .int) :: ((wsX7_sizeBy_r1 ++ (wsX7_sizeBy_r2 ++ wsX7_sizeBy_r3)) ++ wsX70)
def wsX7_sizeWithout_r1 : List Cond := [Cond.fieldLink RX7 7 "NamePlateModel" "now" "[I", Cond.methodLink RX7 131 yX7_noSeat, Cond.instanceMethod yX7_noSeat, Cond.selects RX7 yX7_noSeat yX7_noSeat, Cond.initialized RX7, Cond.code yX7_noSeat cX7_noSeat 2 (some .boolean), Cond.methodLink RX7 27 yX7_in, Cond.static yX7_in, Cond.code yX7_in cX7_in 3 (some .boolean), Cond.methodLink RX7 71 yX7_mostUnits, Cond.instanceMethod yX7_mostUnits, Cond.selects RX7 yX7_mostUnits yX7_mostUnits, Cond.code yX7_mostUnits cX7_mostUnits 5 (some .int), Cond.methodLink RX7 68 yX7_units, Cond.instanceMethod yX7_units, Cond.selects RX7 yX7_units yX7_units, Cond.code yX7_units cX7_units 3 (some .int), Cond.methodLink RX7 46 yX7_of, Cond.instanceMethod yX7_of, Cond.selects RX7 yX7_of yX7_of, Cond.code yX7_of cX7_of 3 (some .int), Cond.methodLink RX7 58 yX7_unitsTo, Cond.instanceMethod yX7_unitsTo, Cond.selects RX7 yX7_unitsTo yX7_unitsTo]
def wsX7_sizeWithout_r2 : List Cond := [Cond.code yX7_unitsTo cX7_unitsTo 5 (some .int), Cond.methodLink RX7 49 yX7_signOf, Cond.instanceMethod yX7_signOf, Cond.selects RX7 yX7_signOf yX7_signOf, Cond.code yX7_signOf cX7_signOf 3 (some .int), Cond.methodLink RX7 52 yX7_wide, Cond.static yX7_wide, Cond.code yX7_wide cX7_wide 1 (some .int), Cond.methodLink RX7 31 yX7_isLetter, Cond.static yX7_isLetter, Cond.code yX7_isLetter cX7_isLetter 1 (some .boolean), Cond.methodLink RX7 55 yX7_space, Cond.instanceMethod yX7_space, Cond.selects RX7 yX7_space yX7_space, Cond.code yX7_space cX7_space 4 (some .int), Cond.methodLink RX7 39 yX7_open, Cond.static yX7_open, Cond.code yX7_open cX7_open 1 (some .int), Cond.methodLink RX7 43 yX7_adjusted, Cond.instanceMethod yX7_adjusted, Cond.selects RX7 yX7_adjusted yX7_adjusted, Cond.code yX7_adjusted cX7_adjusted 4 (some .int), Cond.methodLink RX7 35 yX7_placeOf, Cond.instanceMethod yX7_placeOf]
def wsX7_sizeWithout_r3 : List Cond := [Cond.selects RX7 yX7_placeOf yX7_placeOf, Cond.code yX7_placeOf cX7_placeOf 4 (some .int), Cond.methodLink RX7 74 yX7_rowsOf, Cond.instanceMethod yX7_rowsOf, Cond.selects RX7 yX7_rowsOf yX7_rowsOf, Cond.code yX7_rowsOf cX7_rowsOf 2 (some .int), Cond.methodLink RX7 77 yX7_greatest, Cond.instanceMethod yX7_greatest, Cond.selects RX7 yX7_greatest yX7_greatest, Cond.code yX7_greatest cX7_greatest 8 (some .int), Cond.methodLink RX7 64 yX7_columnWide, Cond.static yX7_columnWide, Cond.code yX7_columnWide cX7_columnWide 3 (some .int)]
def wsX7_sizeWithout : List Cond := .code yX7_sizeWithout cX7_sizeWithout 2 (some .int) :: ((wsX7_sizeWithout_r1 ++ (wsX7_sizeWithout_r2 ++ wsX7_sizeWithout_r3)) ++ wsX70)
def wsX7_leastWidth_r1 : List Cond := [Cond.fieldLink RX7 7 "NamePlateModel" "now" "[I", Cond.methodLink RX7 27 yX7_in, Cond.static yX7_in, Cond.initialized RX7, Cond.code yX7_in cX7_in 3 (some .boolean), Cond.methodLink RX7 71 yX7_mostUnits, Cond.instanceMethod yX7_mostUnits, Cond.selects RX7 yX7_mostUnits yX7_mostUnits, Cond.code yX7_mostUnits cX7_mostUnits 5 (some .int), Cond.methodLink RX7 68 yX7_units, Cond.instanceMethod yX7_units, Cond.selects RX7 yX7_units yX7_units, Cond.code yX7_units cX7_units 3 (some .int), Cond.methodLink RX7 46 yX7_of, Cond.instanceMethod yX7_of, Cond.selects RX7 yX7_of yX7_of, Cond.code yX7_of cX7_of 3 (some .int), Cond.methodLink RX7 58 yX7_unitsTo, Cond.instanceMethod yX7_unitsTo, Cond.selects RX7 yX7_unitsTo yX7_unitsTo, Cond.code yX7_unitsTo cX7_unitsTo 5 (some .int), Cond.methodLink RX7 49 yX7_signOf, Cond.instanceMethod yX7_signOf, Cond.selects RX7 yX7_signOf yX7_signOf]
def wsX7_leastWidth_r2 : List Cond := [Cond.code yX7_signOf cX7_signOf 3 (some .int), Cond.methodLink RX7 52 yX7_wide, Cond.static yX7_wide, Cond.code yX7_wide cX7_wide 1 (some .int), Cond.methodLink RX7 31 yX7_isLetter, Cond.static yX7_isLetter, Cond.code yX7_isLetter cX7_isLetter 1 (some .boolean), Cond.methodLink RX7 55 yX7_space, Cond.instanceMethod yX7_space, Cond.selects RX7 yX7_space yX7_space, Cond.code yX7_space cX7_space 4 (some .int), Cond.methodLink RX7 39 yX7_open, Cond.static yX7_open, Cond.code yX7_open cX7_open 1 (some .int), Cond.methodLink RX7 43 yX7_adjusted, Cond.instanceMethod yX7_adjusted, Cond.selects RX7 yX7_adjusted yX7_adjusted, Cond.code yX7_adjusted cX7_adjusted 4 (some .int), Cond.methodLink RX7 35 yX7_placeOf, Cond.instanceMethod yX7_placeOf, Cond.selects RX7 yX7_placeOf yX7_placeOf, Cond.code yX7_placeOf cX7_placeOf 4 (some .int)]
def wsX7_leastWidth : List Cond := .code yX7_leastWidth cX7_leastWidth 3 (some .int) :: ((wsX7_leastWidth_r1 ++ wsX7_leastWidth_r2) ++ wsX70)
def wsX7_longest_r1 : List Cond := [Cond.fieldLink RX7 7 "NamePlateModel" "now" "[I", Cond.methodLink RX7 68 yX7_units, Cond.instanceMethod yX7_units, Cond.selects RX7 yX7_units yX7_units, Cond.initialized RX7, Cond.code yX7_units cX7_units 3 (some .int), Cond.methodLink RX7 46 yX7_of, Cond.instanceMethod yX7_of, Cond.selects RX7 yX7_of yX7_of, Cond.code yX7_of cX7_of 3 (some .int), Cond.methodLink RX7 58 yX7_unitsTo, Cond.instanceMethod yX7_unitsTo, Cond.selects RX7 yX7_unitsTo yX7_unitsTo, Cond.code yX7_unitsTo cX7_unitsTo 5 (some .int), Cond.methodLink RX7 49 yX7_signOf, Cond.instanceMethod yX7_signOf, Cond.selects RX7 yX7_signOf yX7_signOf, Cond.code yX7_signOf cX7_signOf 3 (some .int), Cond.methodLink RX7 52 yX7_wide, Cond.static yX7_wide, Cond.code yX7_wide cX7_wide 1 (some .int), Cond.methodLink RX7 31 yX7_isLetter, Cond.static yX7_isLetter, Cond.code yX7_isLetter cX7_isLetter 1 (some .boolean)]
def wsX7_longest_r2 : List Cond := [Cond.methodLink RX7 27 yX7_in, Cond.static yX7_in, Cond.code yX7_in cX7_in 3 (some .boolean), Cond.methodLink RX7 55 yX7_space, Cond.instanceMethod yX7_space, Cond.selects RX7 yX7_space yX7_space, Cond.code yX7_space cX7_space 4 (some .int), Cond.methodLink RX7 39 yX7_open, Cond.static yX7_open, Cond.code yX7_open cX7_open 1 (some .int), Cond.methodLink RX7 43 yX7_adjusted, Cond.instanceMethod yX7_adjusted, Cond.selects RX7 yX7_adjusted yX7_adjusted, Cond.code yX7_adjusted cX7_adjusted 4 (some .int), Cond.methodLink RX7 35 yX7_placeOf, Cond.instanceMethod yX7_placeOf, Cond.selects RX7 yX7_placeOf yX7_placeOf, Cond.code yX7_placeOf cX7_placeOf 4 (some .int)]
def wsX7_longest : List Cond := .code yX7_longest cX7_longest 3 (some .int) :: ((wsX7_longest_r1 ++ wsX7_longest_r2) ++ wsX70)
def wsX7_adjustment : List Cond := .code yX7_adjustment cX7_adjustment 3 (some .int) :: ([.methodLink RX7 115 yX7_areSigns, .static yX7_areSigns, .initialized RX7, .code yX7_areSigns cX7_areSigns 2 (some .boolean), .methodLink RX7 31 yX7_isLetter, .static yX7_isLetter, .code yX7_isLetter cX7_isLetter 1 (some .boolean), .methodLink RX7 27 yX7_in, .static yX7_in, .code yX7_in cX7_in 3 (some .boolean), .methodLink RX7 112 yX7_isPoint, .static yX7_isPoint, .code yX7_isPoint cX7_isPoint 1 (some .boolean), .methodLink RX7 43 yX7_adjusted, .instanceMethod yX7_adjusted, .selects RX7 yX7_adjusted yX7_adjusted, .code yX7_adjusted cX7_adjusted 4 (some .int), .fieldLink RX7 7 "NamePlateModel" "now" "[I", .methodLink RX7 35 yX7_placeOf, .instanceMethod yX7_placeOf, .selects RX7 yX7_placeOf yX7_placeOf, .code yX7_placeOf cX7_placeOf 4 (some .int)] ++ wsX70)
def wsX7_pair : List Cond := .code yX7_pair cX7_pair 3 (some .int) :: ([.fieldLink RX7 7 "NamePlateModel" "now" "[I", .methodLink RX7 27 yX7_in, .static yX7_in, .initialized RX7, .code yX7_in cX7_in 3 (some .boolean)] ++ wsX70)
def wsX7_count : List Cond := .code yX7_count cX7_count 2 (some .int) :: ([.fieldLink RX7 7 "NamePlateModel" "now" "[I", .fieldLink RX7 23 "NamePlateModel" "kept" "I", .fieldLink RX7 122 "NamePlateModel" "typed" "I", .methodLink RX7 81 yX7_engraved, .instanceMethod yX7_engraved, .selects RX7 yX7_engraved yX7_engraved, .initialized RX7, .code yX7_engraved cX7_engraved 3 (some .int), .methodLink RX7 46 yX7_of, .instanceMethod yX7_of, .selects RX7 yX7_of yX7_of, .code yX7_of cX7_of 3 (some .int), .methodLink RX7 74 yX7_rowsOf, .instanceMethod yX7_rowsOf, .selects RX7 yX7_rowsOf yX7_rowsOf, .code yX7_rowsOf cX7_rowsOf 2 (some .int)] ++ wsX70)
def wsJ9_max_7cf53 : List Cond := .code yJ9_max_7cf53 cJ9_max_7cf53 2 (some .int) :: ([])
def wsJ9_min_7cf53 : List Cond := .code yJ9_min_7cf53 cJ9_min_7cf53 2 (some .int) :: ([])
def wsL_law_r1 : List Cond := [Cond.classLink RL 7 RX6, Cond.instantiable RX6 5, Cond.initialized RX6, Cond.classLink RL 10 RX7, Cond.instantiable RX7 7, Cond.initialized RX7, Cond.methodLink RL 9 yX6_init, Cond.instanceMethod yX6_init, Cond.code yX6_init cX6_init 1 none, Cond.methodLink RX6 1 objectInit, Cond.instanceMethod objectInit, Cond.code objectInit ⟨#[0xb1]⟩ 1 none, Cond.classLink RX6 7 RX4, Cond.instantiable RX4 10, Cond.initialized RX4, Cond.fieldLink RX6 10 "NamePlate" "now" "LNamePlate$State;", Cond.fieldLink RX6 16 "NamePlate" "snapshot" "LNamePlate$State;", Cond.classLink RX6 19 RX0, Cond.instantiable RX0 3, Cond.initialized RX0, Cond.fieldLink RX6 22 "NamePlate" "history" "LNamePlate$History;", Cond.classLink RX6 26 RX5, Cond.instantiable RX5 2, Cond.initialized RX5]
def wsL_law_r2 : List Cond := [Cond.fieldLink RX6 29 "NamePlate" "text" "LNamePlate$Text;", Cond.fieldLink RX6 33 "NamePlate" "hasSnapshot" "Z", Cond.instanceMethod yX4_init, Cond.code yX4_init cX4_init 1 none, Cond.methodLink RX4 3 objectInit, Cond.classLink RX4 9 RX1, Cond.instantiable RX1 3, Cond.initialized RX1, Cond.fieldLink RX4 12 "NamePlate$State" "names" "LNamePlate$Names;", Cond.classLink RX4 18 RX2, Cond.instantiable RX2 4, Cond.initialized RX2, Cond.fieldLink RX4 21 "NamePlate$State" "pairs" "LNamePlate$Pairs;", Cond.fieldLink RX4 25 "NamePlate$State" "width" "I", Cond.fieldLink RX4 29 "NamePlate$State" "height" "I", Cond.fieldLink RX4 32 "NamePlate$State" "margin" "I", Cond.fieldLink RX4 35 "NamePlate$State" "columns" "I", Cond.fieldLink RX4 38 "NamePlate$State" "engraved" "I", Cond.fieldLink RX4 41 "NamePlate$State" "engravedSize" "I", Cond.fieldLink RX4 44 "NamePlate$State" "cuts" "I", Cond.fieldLink RX4 47 "NamePlate$State" "lost" "I", Cond.instanceMethod yX1_init, Cond.code yX1_init cX1_init 1 none, Cond.methodLink RX1 3 objectInit]
def wsL_law_r3 : List Cond := [Cond.arrayClass .char, Cond.fieldLink RX1 9 "NamePlate$Names" "codes" "[C", Cond.arrayClass .int, Cond.fieldLink RX1 15 "NamePlate$Names" "lengths" "[I", Cond.fieldLink RX1 19 "NamePlate$Names" "number" "I", Cond.instanceMethod yX2_init, Cond.code yX2_init cX2_init 1 none, Cond.methodLink RX2 3 objectInit, Cond.fieldLink RX2 9 "NamePlate$Pairs" "lefts" "[C", Cond.fieldLink RX2 15 "NamePlate$Pairs" "rights" "[C", Cond.fieldLink RX2 18 "NamePlate$Pairs" "adjustments" "[I", Cond.fieldLink RX2 22 "NamePlate$Pairs" "number" "I", Cond.methodLink RX6 21 yX0_init, Cond.instanceMethod yX0_init, Cond.code yX0_init cX0_init 2 none, Cond.methodLink RX0 3 objectInit, Cond.classLink RX0 9 RX4, Cond.fieldLink RX0 11 "NamePlate$History" "states" "[LNamePlate$State;", Cond.fieldLink RX0 17 "NamePlate$History" "oldest" "I", Cond.fieldLink RX0 21 "NamePlate$History" "number" "I", Cond.instanceMethod yX5_init, Cond.code yX5_init cX5_init 1 none, Cond.methodLink RX5 3 objectInit, Cond.fieldLink RX5 9 "NamePlate$Text" "characters" "[C"]
def wsL_law_r4 : List Cond := [Cond.fieldLink RX5 15 "NamePlate$Text" "length" "I", Cond.methodLink RL 12 yX7_init, Cond.instanceMethod yX7_init, Cond.code yX7_init cX7_init 1 none, Cond.methodLink RX7 1 objectInit, Cond.fieldLink RX7 7 "NamePlateModel" "now" "[I", Cond.fieldLink RX7 13 "NamePlateModel" "history" "[I", Cond.fieldLink RX7 16 "NamePlateModel" "slot" "[I", Cond.fieldLink RX7 19 "NamePlateModel" "text" "[C", Cond.methodLink RL 13 yX6_recut, Cond.instanceMethod yX6_recut, Cond.selects RX6 yX6_recut yX6_recut, Cond.code yX6_recut cX6_recut 3 (some .int), Cond.methodLink RX6 37 yX6_isPlate, Cond.static yX6_isPlate, Cond.code yX6_isPlate cX6_isPlate 2 (some .boolean), Cond.methodLink RX6 41 yX0_record, Cond.instanceMethod yX0_record, Cond.selects RX0 yX0_record yX0_record, Cond.code yX0_record cX0_record 3 none, Cond.methodLink RX0 25 yX0_slotAt, Cond.instanceMethod yX0_slotAt, Cond.selects RX0 yX0_slotAt yX0_slotAt, Cond.code yX0_slotAt cX0_slotAt 3 (some (.object "NamePlate$State"))]
def wsL_law_r5 : List Cond := [Cond.methodLink RX0 29 yX4_copyFrom, Cond.instanceMethod yX4_copyFrom, Cond.selects RX4 yX4_copyFrom yX4_copyFrom, Cond.code yX4_copyFrom cX4_copyFrom 2 none, Cond.methodLink RX4 50 yX1_copyFrom, Cond.instanceMethod yX1_copyFrom, Cond.selects RX1 yX1_copyFrom yX1_copyFrom, Cond.code yX1_copyFrom cX1_copyFrom 2 none, Cond.methodLink RX1 23 arraycopyName, Cond.native arraycopyName, Cond.static arraycopyName, Cond.initialized "java/lang/System", Cond.methodLink RX4 54 yX2_copyFrom, Cond.instanceMethod yX2_copyFrom, Cond.selects RX2 yX2_copyFrom yX2_copyFrom, Cond.code yX2_copyFrom cX2_copyFrom 2 none, Cond.methodLink RX2 26 arraycopyName, Cond.methodLink RX6 45 yX4_cutAnew, Cond.instanceMethod yX4_cutAnew, Cond.selects RX4 yX4_cutAnew yX4_cutAnew, Cond.code yX4_cutAnew cX4_cutAnew 4 (some .int), Cond.methodLink RX4 57 yX4_engravedNames, Cond.instanceMethod yX4_engravedNames, Cond.selects RX4 yX4_engravedNames yX4_engravedNames]
def wsL_law_r6 : List Cond := [Cond.code yX4_engravedNames cX4_engravedNames 1 (some .int), Cond.methodLink RX4 61 yJ6_bitCount_0f7a4, Cond.static yJ6_bitCount_0f7a4, Cond.initialized RJ6, Cond.code yJ6_bitCount_0f7a4 cJ6_bitCount_0f7a4 1 (some .int), Cond.constant RJ6 265 (1431655765), Cond.constant RJ6 266 (858993459), Cond.constant RJ6 267 (252645135), Cond.methodLink RL 17 yX7_recut, Cond.instanceMethod yX7_recut, Cond.selects RX7 yX7_recut yX7_recut, Cond.code yX7_recut cX7_recut 5 (some .int), Cond.methodLink RX7 27 yX7_in, Cond.static yX7_in, Cond.code yX7_in cX7_in 3 (some .boolean), Cond.methodLink RX7 103 yX7_record, Cond.instanceMethod yX7_record, Cond.selects RX7 yX7_record yX7_record, Cond.code yX7_record cX7_record 2 none, Cond.fieldLink RX7 23 "NamePlateModel" "kept" "I", Cond.methodLink RX7 81 yX7_engraved, Cond.instanceMethod yX7_engraved, Cond.selects RX7 yX7_engraved yX7_engraved, Cond.code yX7_engraved cX7_engraved 3 (some .int)]
def wsL_law_r7 : List Cond := [Cond.methodLink RX7 46 yX7_of, Cond.instanceMethod yX7_of, Cond.selects RX7 yX7_of yX7_of, Cond.code yX7_of cX7_of 3 (some .int), Cond.methodLink RL 18 yX6_setMargin, Cond.instanceMethod yX6_setMargin, Cond.selects RX6 yX6_setMargin yX6_setMargin, Cond.code yX6_setMargin cX6_setMargin 3 (some .int), Cond.methodLink RX6 49 yX4_hasEngraved, Cond.instanceMethod yX4_hasEngraved, Cond.selects RX4 yX4_hasEngraved yX4_hasEngraved, Cond.code yX4_hasEngraved cX4_hasEngraved 1 (some .boolean), Cond.methodLink RL 22 yX7_setMargin, Cond.instanceMethod yX7_setMargin, Cond.selects RX7 yX7_setMargin yX7_setMargin, Cond.code yX7_setMargin cX7_setMargin 2 (some .int), Cond.methodLink RX7 106 yX7_sets, Cond.instanceMethod yX7_sets, Cond.selects RX7 yX7_sets yX7_sets, Cond.code yX7_sets cX7_sets 4 (some .int), Cond.methodLink RL 23 yX6_setColumns, Cond.instanceMethod yX6_setColumns, Cond.selects RX6 yX6_setColumns yX6_setColumns, Cond.code yX6_setColumns cX6_setColumns 3 (some .int)]
def wsL_law_r8 : List Cond := [Cond.methodLink RL 26 yX7_setColumns, Cond.instanceMethod yX7_setColumns, Cond.selects RX7 yX7_setColumns yX7_setColumns, Cond.code yX7_setColumns cX7_setColumns 2 (some .int), Cond.methodLink RL 27 yX6_adjust, Cond.instanceMethod yX6_adjust, Cond.selects RX6 yX6_adjust yX6_adjust, Cond.code yX6_adjust cX6_adjust 5 (some .int), Cond.methodLink RX6 60 yX3_isKnown, Cond.static yX3_isKnown, Cond.initialized RX3, Cond.code yX3_isKnown cX3_isKnown 1 (some .boolean), Cond.methodLink RX3 7 yX3_isLetter, Cond.static yX3_isLetter, Cond.code yX3_isLetter cX3_isLetter 1 (some .boolean), Cond.methodLink RX3 13 yX3_isMark, Cond.static yX3_isMark, Cond.code yX3_isMark cX3_isMark 1 (some .boolean), Cond.methodLink RX6 66 yX4_isEngravedPair, Cond.instanceMethod yX4_isEngravedPair, Cond.selects RX4 yX4_isEngravedPair yX4_isEngravedPair, Cond.code yX4_isEngravedPair cX4_isEngravedPair 4 (some .boolean), Cond.methodLink RX4 70 yX4_isEngraved, Cond.instanceMethod yX4_isEngraved]
def wsL_law_r9 : List Cond := [Cond.selects RX4 yX4_isEngraved yX4_isEngraved, Cond.code yX4_isEngraved cX4_isEngraved 2 (some .boolean), Cond.methodLink RX4 78 yX4_hasPair, Cond.instanceMethod yX4_hasPair, Cond.selects RX4 yX4_hasPair yX4_hasPair, Cond.code yX4_hasPair cX4_hasPair 5 (some .boolean), Cond.methodLink RX4 82 yX1_lengthOf, Cond.instanceMethod yX1_lengthOf, Cond.selects RX1 yX1_lengthOf yX1_lengthOf, Cond.code yX1_lengthOf cX1_lengthOf 2 (some .int), Cond.methodLink RX4 85 yX1_codeAt, Cond.instanceMethod yX1_codeAt, Cond.selects RX1 yX1_codeAt yX1_codeAt, Cond.code yX1_codeAt cX1_codeAt 4 (some .char), Cond.methodLink RX6 70 yX4_adjustmentOf, Cond.instanceMethod yX4_adjustmentOf, Cond.selects RX4 yX4_adjustmentOf yX4_adjustmentOf, Cond.code yX4_adjustmentOf cX4_adjustmentOf 3 (some .int), Cond.methodLink RX4 89 yX2_placeOf, Cond.instanceMethod yX2_placeOf, Cond.selects RX2 yX2_placeOf yX2_placeOf, Cond.code yX2_placeOf cX2_placeOf 4 (some .int), Cond.methodLink RX4 93 yX2_adjustmentAt, Cond.instanceMethod yX2_adjustmentAt]
def wsL_law_r10 : List Cond := [Cond.selects RX2 yX2_adjustmentAt yX2_adjustmentAt, Cond.code yX2_adjustmentAt cX2_adjustmentAt 2 (some .int), Cond.methodLink RX6 78 yX2_isFull, Cond.instanceMethod yX2_isFull, Cond.selects RX2 yX2_isFull yX2_isFull, Cond.code yX2_isFull cX2_isFull 1 (some .boolean), Cond.methodLink RX6 83 yX2_put, Cond.instanceMethod yX2_put, Cond.selects RX2 yX2_put yX2_put, Cond.code yX2_put cX2_put 5 none, Cond.methodLink RX2 36 yX2_placeOf, Cond.methodLink RX2 32 yX2_isPlace, Cond.instanceMethod yX2_isPlace, Cond.selects RX2 yX2_isPlace yX2_isPlace, Cond.code yX2_isPlace cX2_isPlace 2 (some .boolean), Cond.methodLink RX2 40 yX2_takeOut, Cond.instanceMethod yX2_takeOut, Cond.selects RX2 yX2_takeOut yX2_takeOut, Cond.code yX2_takeOut cX2_takeOut 3 none, Cond.methodLink RX2 44 yX2_append, Cond.instanceMethod yX2_append, Cond.selects RX2 yX2_append yX2_append, Cond.code yX2_append cX2_append 4 none, Cond.methodLink RL 31 yX7_adjust]
def wsL_law_r11 : List Cond := [Cond.instanceMethod yX7_adjust, Cond.selects RX7 yX7_adjust yX7_adjust, Cond.code yX7_adjust cX7_adjust 7 (some .int), Cond.methodLink RX7 115 yX7_areSigns, Cond.static yX7_areSigns, Cond.code yX7_areSigns cX7_areSigns 2 (some .boolean), Cond.methodLink RX7 31 yX7_isLetter, Cond.static yX7_isLetter, Cond.code yX7_isLetter cX7_isLetter 1 (some .boolean), Cond.methodLink RX7 112 yX7_isPoint, Cond.static yX7_isPoint, Cond.code yX7_isPoint cX7_isPoint 1 (some .boolean), Cond.methodLink RX7 119 yX7_isCut, Cond.instanceMethod yX7_isCut, Cond.selects RX7 yX7_isCut yX7_isCut, Cond.code yX7_isCut cX7_isCut 5 (some .boolean), Cond.methodLink RX7 109 yX7_isEngraved, Cond.instanceMethod yX7_isEngraved, Cond.selects RX7 yX7_isEngraved yX7_isEngraved, Cond.code yX7_isEngraved cX7_isEngraved 2 (some .boolean), Cond.methodLink RX7 49 yX7_signOf, Cond.instanceMethod yX7_signOf, Cond.selects RX7 yX7_signOf yX7_signOf, Cond.code yX7_signOf cX7_signOf 3 (some .int)]
def wsL_law_r12 : List Cond := [Cond.methodLink RX7 43 yX7_adjusted, Cond.instanceMethod yX7_adjusted, Cond.selects RX7 yX7_adjusted yX7_adjusted, Cond.code yX7_adjusted cX7_adjusted 4 (some .int), Cond.methodLink RX7 35 yX7_placeOf, Cond.instanceMethod yX7_placeOf, Cond.selects RX7 yX7_placeOf yX7_placeOf, Cond.code yX7_placeOf cX7_placeOf 4 (some .int), Cond.methodLink RL 32 yX6_type, Cond.instanceMethod yX6_type, Cond.selects RX6 yX6_type yX6_type, Cond.code yX6_type cX6_type 2 (some .int), Cond.methodLink RX6 87 yX5_isFull, Cond.instanceMethod yX5_isFull, Cond.selects RX5 yX5_isFull yX5_isFull, Cond.code yX5_isFull cX5_isFull 1 (some .boolean), Cond.methodLink RX6 88 yX5_append, Cond.instanceMethod yX5_append, Cond.selects RX5 yX5_append yX5_append, Cond.code yX5_append cX5_append 2 none, Cond.methodLink RL 36 yX7_type, Cond.instanceMethod yX7_type, Cond.selects RX7 yX7_type yX7_type, Cond.code yX7_type cX7_type 2 (some .int)]
def wsL_law_r13 : List Cond := [Cond.fieldLink RX7 122 "NamePlateModel" "typed" "I", Cond.methodLink RL 37 yX6_clearText, Cond.instanceMethod yX6_clearText, Cond.selects RX6 yX6_clearText yX6_clearText, Cond.code yX6_clearText cX6_clearText 2 (some .int), Cond.methodLink RL 41 yX7_clearText, Cond.instanceMethod yX7_clearText, Cond.selects RX7 yX7_clearText yX7_clearText, Cond.code yX7_clearText cX7_clearText 2 (some .int), Cond.methodLink RL 42 yX6_readNames, Cond.instanceMethod yX6_readNames, Cond.selects RX6 yX6_readNames yX6_readNames, Cond.code yX6_readNames cX6_readNames 3 (some .int), Cond.methodLink RX6 95 yX5_fault, Cond.instanceMethod yX5_fault, Cond.selects RX5 yX5_fault yX5_fault, Cond.code yX5_fault cX5_fault 5 (some .int), Cond.methodLink RX5 19 yX5_characterAt, Cond.instanceMethod yX5_characterAt, Cond.selects RX5 yX5_characterAt yX5_characterAt, Cond.code yX5_characterAt cX5_characterAt 2 (some .char), Cond.methodLink RX5 23 yX5_isAllowed, Cond.static yX5_isAllowed, Cond.code yX5_isAllowed cX5_isAllowed 3 (some .boolean)]
def wsL_law_r14 : List Cond := [Cond.methodLink RX5 27 yX3_isLetter, Cond.methodLink RX5 33 yX3_isMark, Cond.methodLink RX6 99 yX5_namesInIt, Cond.instanceMethod yX5_namesInIt, Cond.selects RX5 yX5_namesInIt yX5_namesInIt, Cond.code yX5_namesInIt cX5_namesInIt 3 (some .int), Cond.methodLink RX6 111 yX6_addNamesOfText, Cond.instanceMethod yX6_addNamesOfText, Cond.selects RX6 yX6_addNamesOfText yX6_addNamesOfText, Cond.code yX6_addNamesOfText cX6_addNamesOfText 3 none, Cond.methodLink RX6 114 yX1_begin, Cond.instanceMethod yX1_begin, Cond.selects RX1 yX1_begin yX1_begin, Cond.code yX1_begin cX1_begin 1 none, Cond.methodLink RX6 117 yX5_characterAt, Cond.methodLink RX6 121 yX1_append, Cond.instanceMethod yX1_append, Cond.selects RX1 yX1_append yX1_append, Cond.code yX1_append cX1_append 3 none, Cond.methodLink RX1 29 yX1_isTaken, Cond.instanceMethod yX1_isTaken, Cond.selects RX1 yX1_isTaken yX1_isTaken, Cond.code yX1_isTaken cX1_isTaken 2 (some .boolean), Cond.methodLink RL 45 yX7_readNames]
def wsL_law_r15 : List Cond := [Cond.instanceMethod yX7_readNames, Cond.selects RX7 yX7_readNames yX7_readNames, Cond.code yX7_readNames cX7_readNames 5 (some .int), Cond.methodLink RX7 125 yX7_faultOf, Cond.instanceMethod yX7_faultOf, Cond.selects RX7 yX7_faultOf yX7_faultOf, Cond.code yX7_faultOf cX7_faultOf 5 (some .int), Cond.methodLink RX7 128 yX7_namesInText, Cond.instanceMethod yX7_namesInText, Cond.selects RX7 yX7_namesInText yX7_namesInText, Cond.code yX7_namesInText cX7_namesInText 3 (some .int), Cond.methodLink RL 46 yX6_remove, Cond.instanceMethod yX6_remove, Cond.selects RX6 yX6_remove yX6_remove, Cond.code yX6_remove cX6_remove 2 (some .int), Cond.methodLink RX6 122 yX1_isTaken, Cond.methodLink RX6 126 yX4_isEngravedFrom, Cond.instanceMethod yX4_isEngravedFrom, Cond.selects RX4 yX4_isEngravedFrom yX4_isEngravedFrom, Cond.code yX4_isEngravedFrom cX4_isEngravedFrom 2 (some .boolean), Cond.methodLink RX6 129 yX1_takeOut, Cond.instanceMethod yX1_takeOut, Cond.selects RX1 yX1_takeOut yX1_takeOut, Cond.code yX1_takeOut cX1_takeOut 3 none]
def wsL_law_r16 : List Cond := [Cond.methodLink RX1 37 yX1_exchange, Cond.instanceMethod yX1_exchange, Cond.selects RX1 yX1_exchange yX1_exchange, Cond.code yX1_exchange cX1_exchange 5 none, Cond.methodLink RL 49 yX7_remove, Cond.instanceMethod yX7_remove, Cond.selects RX7 yX7_remove yX7_remove, Cond.code yX7_remove cX7_remove 3 (some .int), Cond.methodLink RX7 131 yX7_noSeat, Cond.instanceMethod yX7_noSeat, Cond.selects RX7 yX7_noSeat yX7_noSeat, Cond.code yX7_noSeat cX7_noSeat 2 (some .boolean), Cond.methodLink RL 50 yX6_swap, Cond.instanceMethod yX6_swap, Cond.selects RX6 yX6_swap yX6_swap, Cond.code yX6_swap cX6_swap 3 (some .int), Cond.methodLink RX6 133 yX4_isEngraved, Cond.methodLink RX6 136 yX1_exchange, Cond.methodLink RX6 140 yX4_sizeNow, Cond.instanceMethod yX4_sizeNow, Cond.selects RX4 yX4_sizeNow yX4_sizeNow, Cond.code yX4_sizeNow cX4_sizeNow 1 (some .int), Cond.methodLink RX4 134 yX4_hasEngraved, Cond.methodLink RX4 138 yX4_mostUnits]
def wsL_law_r17 : List Cond := [Cond.instanceMethod yX4_mostUnits, Cond.selects RX4 yX4_mostUnits yX4_mostUnits, Cond.code yX4_mostUnits cX4_mostUnits 4 (some .int), Cond.methodLink RX4 102 Lib.Math.max.name, Cond.static Lib.Math.max.name, Cond.initialized "java/lang/Math", Cond.code Lib.Math.max.name Lib.Math.max.code 2 (some .int), Cond.methodLink RX4 119 yX4_unitsOf, Cond.instanceMethod yX4_unitsOf, Cond.selects RX4 yX4_unitsOf yX4_unitsOf, Cond.code yX4_unitsOf cX4_unitsOf 2 (some .int), Cond.methodLink RX4 113 yX4_unitsBefore, Cond.instanceMethod yX4_unitsBefore, Cond.selects RX4 yX4_unitsBefore yX4_unitsBefore, Cond.code yX4_unitsBefore cX4_unitsBefore 5 (some .int), Cond.methodLink RX4 111 yX3_width, Cond.static yX3_width, Cond.code yX3_width cX3_width 1 (some .int), Cond.methodLink RX4 108 yX4_spaceBehind, Cond.instanceMethod yX4_spaceBehind, Cond.selects RX4 yX4_spaceBehind yX4_spaceBehind, Cond.code yX4_spaceBehind cX4_spaceBehind 6 (some .int), Cond.methodLink RX4 96 yX3_openness, Cond.static yX3_openness]
def wsL_law_r18 : List Cond := [Cond.code yX3_openness cX3_openness 1 (some .int), Cond.methodLink RX4 141 yX4_greatestSize, Cond.instanceMethod yX4_greatestSize, Cond.selects RX4 yX4_greatestSize yX4_greatestSize, Cond.code yX4_greatestSize cX4_greatestSize 7 (some .int), Cond.methodLink RX4 145 yX4_rowsFor, Cond.instanceMethod yX4_rowsFor, Cond.selects RX4 yX4_rowsFor yX4_rowsFor, Cond.code yX4_rowsFor cX4_rowsFor 2 (some .int), Cond.methodLink RX4 122 yX4_quotient, Cond.static yX4_quotient, Cond.code yX4_quotient cX4_quotient 2 (some .int), Cond.methodLink RX4 160 yJ9_floorDiv_7cf53, Cond.static yJ9_floorDiv_7cf53, Cond.initialized RJ9, Cond.code yJ9_floorDiv_7cf53 cJ9_floorDiv_7cf53 3 (some .int), Cond.methodLink RX4 131 yX4_columnWidth, Cond.instanceMethod yX4_columnWidth, Cond.selects RX4 yX4_columnWidth yX4_columnWidth, Cond.code yX4_columnWidth cX4_columnWidth 2 (some .int), Cond.methodLink RL 53 yX7_swap, Cond.instanceMethod yX7_swap, Cond.selects RX7 yX7_swap yX7_swap, Cond.code yX7_swap cX7_swap 5 (some .int)]
def wsL_law_r19 : List Cond := [Cond.methodLink RX7 134 yX7_size, Cond.instanceMethod yX7_size, Cond.selects RX7 yX7_size yX7_size, Cond.code yX7_size cX7_size 1 (some .int), Cond.methodLink RX7 85 yX7_free, Cond.instanceMethod yX7_free, Cond.selects RX7 yX7_free yX7_free, Cond.code yX7_free cX7_free 3 (some .int), Cond.methodLink RX7 71 yX7_mostUnits, Cond.instanceMethod yX7_mostUnits, Cond.selects RX7 yX7_mostUnits yX7_mostUnits, Cond.code yX7_mostUnits cX7_mostUnits 5 (some .int), Cond.methodLink RX7 68 yX7_units, Cond.instanceMethod yX7_units, Cond.selects RX7 yX7_units yX7_units, Cond.code yX7_units cX7_units 3 (some .int), Cond.methodLink RX7 58 yX7_unitsTo, Cond.instanceMethod yX7_unitsTo, Cond.selects RX7 yX7_unitsTo yX7_unitsTo, Cond.code yX7_unitsTo cX7_unitsTo 5 (some .int), Cond.methodLink RX7 52 yX7_wide, Cond.static yX7_wide, Cond.code yX7_wide cX7_wide 1 (some .int), Cond.methodLink RX7 55 yX7_space]
def wsL_law_r20 : List Cond := [Cond.instanceMethod yX7_space, Cond.selects RX7 yX7_space yX7_space, Cond.code yX7_space cX7_space 4 (some .int), Cond.methodLink RX7 39 yX7_open, Cond.static yX7_open, Cond.code yX7_open cX7_open 1 (some .int), Cond.methodLink RX7 74 yX7_rowsOf, Cond.instanceMethod yX7_rowsOf, Cond.selects RX7 yX7_rowsOf yX7_rowsOf, Cond.code yX7_rowsOf cX7_rowsOf 2 (some .int), Cond.methodLink RX7 77 yX7_greatest, Cond.instanceMethod yX7_greatest, Cond.selects RX7 yX7_greatest yX7_greatest, Cond.code yX7_greatest cX7_greatest 8 (some .int), Cond.methodLink RX7 64 yX7_columnWide, Cond.static yX7_columnWide, Cond.code yX7_columnWide cX7_columnWide 3 (some .int), Cond.methodLink RL 54 yX6_engrave, Cond.instanceMethod yX6_engrave, Cond.selects RX6 yX6_engrave yX6_engrave, Cond.code yX6_engrave cX6_engrave 3 (some .int), Cond.methodLink RX6 143 yX4_fits, Cond.instanceMethod yX4_fits, Cond.selects RX4 yX4_fits yX4_fits]
def wsL_law_r21 : List Cond := [Cond.code yX4_fits cX4_fits 3 (some .boolean), Cond.methodLink RX4 125 yX4_rowOf, Cond.instanceMethod yX4_rowOf, Cond.selects RX4 yX4_rowOf yX4_rowOf, Cond.code yX4_rowOf cX4_rowOf 2 (some .int), Cond.methodLink RX6 146 yX4_markEngraved, Cond.instanceMethod yX4_markEngraved, Cond.selects RX4 yX4_markEngraved yX4_markEngraved, Cond.code yX4_markEngraved cX4_markEngraved 3 none, Cond.methodLink RX6 149 yX4_beginOf, Cond.instanceMethod yX4_beginOf, Cond.selects RX4 yX4_beginOf yX4_beginOf, Cond.code yX4_beginOf cX4_beginOf 9 (some .int), Cond.methodLink RX4 157 Lib.Math.min.name, Cond.static Lib.Math.min.name, Cond.code Lib.Math.min.name Lib.Math.min.code 2 (some .int), Cond.methodLink RX4 148 yX4_columnBegin, Cond.instanceMethod yX4_columnBegin, Cond.selects RX4 yX4_columnBegin yX4_columnBegin, Cond.code yX4_columnBegin cX4_columnBegin 2 (some .int), Cond.methodLink RX4 128 yX4_columnOf, Cond.instanceMethod yX4_columnOf, Cond.selects RX4 yX4_columnOf yX4_columnOf, Cond.code yX4_columnOf cX4_columnOf 2 (some .int)]
def wsL_law_r22 : List Cond := [Cond.methodLink RX4 151 yX4_inkOf, Cond.instanceMethod yX4_inkOf, Cond.selects RX4 yX4_inkOf yX4_inkOf, Cond.code yX4_inkOf cX4_inkOf 4 (some .int), Cond.methodLink RX4 116 yX3_ink, Cond.static yX3_ink, Cond.code yX3_ink cX3_ink 1 (some .int), Cond.methodLink RX4 154 yX4_twiceInkMoment, Cond.instanceMethod yX4_twiceInkMoment, Cond.selects RX4 yX4_twiceInkMoment yX4_twiceInkMoment, Cond.code yX4_twiceInkMoment cX4_twiceInkMoment 7 (some .int), Cond.methodLink RL 57 yX7_engrave, Cond.instanceMethod yX7_engrave, Cond.selects RX7 yX7_engrave yX7_engrave, Cond.code yX7_engrave cX7_engrave 3 (some .int), Cond.methodLink RX7 137 yX7_fits, Cond.instanceMethod yX7_fits, Cond.selects RX7 yX7_fits yX7_fits, Cond.code yX7_fits cX7_fits 3 (some .boolean), Cond.methodLink RX7 88 yX7_column, Cond.instanceMethod yX7_column, Cond.selects RX7 yX7_column yX7_column, Cond.code yX7_column cX7_column 1 (some .int), Cond.methodLink RX7 91 yX7_rowOf]
def wsL_law_r23 : List Cond := [Cond.instanceMethod yX7_rowOf, Cond.selects RX7 yX7_rowOf yX7_rowOf, Cond.code yX7_rowOf cX7_rowOf 2 (some .int), Cond.methodLink RX7 140 yX7_engraves, Cond.instanceMethod yX7_engraves, Cond.selects RX7 yX7_engraves yX7_engraves, Cond.code yX7_engraves cX7_engraves 3 none, Cond.methodLink RX7 144 yX7_begin, Cond.instanceMethod yX7_begin, Cond.selects RX7 yX7_begin yX7_begin, Cond.code yX7_begin cX7_begin 8 (some .int), Cond.methodLink RX7 94 yX7_inkOf, Cond.instanceMethod yX7_inkOf, Cond.selects RX7 yX7_inkOf yX7_inkOf, Cond.code yX7_inkOf cX7_inkOf 4 (some .int), Cond.methodLink RX7 61 yX7_ink, Cond.static yX7_ink, Cond.code yX7_ink cX7_ink 1 (some .int), Cond.methodLink RX7 97 yX7_columnBegin, Cond.instanceMethod yX7_columnBegin, Cond.selects RX7 yX7_columnBegin yX7_columnBegin, Cond.code yX7_columnBegin cX7_columnBegin 2 (some .int), Cond.methodLink RX7 100 yX7_down, Cond.static yX7_down]
def wsL_law_r24 : List Cond := [Cond.code yX7_down cX7_down 3 (some .int), Cond.methodLink RL 58 yX6_engraveAll, Cond.instanceMethod yX6_engraveAll, Cond.selects RX6 yX6_engraveAll yX6_engraveAll, Cond.code yX6_engraveAll cX6_engraveAll 3 (some .int), Cond.methodLink RX6 152 yX4_engravableSeats, Cond.instanceMethod yX4_engravableSeats, Cond.selects RX4 yX4_engravableSeats yX4_engravableSeats, Cond.code yX4_engravableSeats cX4_engravableSeats 4 (some .int), Cond.methodLink RX4 74 yX4_fits, Cond.methodLink RX6 156 yJ6_bitCount_0f7a4, Cond.methodLink RL 61 yX7_engraveAll, Cond.instanceMethod yX7_engraveAll, Cond.selects RX7 yX7_engraveAll yX7_engraveAll, Cond.code yX7_engraveAll cX7_engraveAll 4 (some .int), Cond.methodLink RL 62 yX6_undo, Cond.instanceMethod yX6_undo, Cond.selects RX6 yX6_undo yX6_undo, Cond.code yX6_undo cX6_undo 1 (some .int), Cond.methodLink RX6 162 yX0_takeLatest, Cond.instanceMethod yX0_takeLatest, Cond.selects RX0 yX0_takeLatest yX0_takeLatest, Cond.code yX0_takeLatest cX0_takeLatest 3 none, Cond.methodLink RL 65 yX7_undo]
def wsL_law_r25 : List Cond := [Cond.instanceMethod yX7_undo, Cond.selects RX7 yX7_undo yX7_undo, Cond.code yX7_undo cX7_undo 2 (some .int), Cond.methodLink RL 66 yX6_keep, Cond.instanceMethod yX6_keep, Cond.selects RX6 yX6_keep yX6_keep, Cond.code yX6_keep cX6_keep 1 (some .int), Cond.methodLink RX6 165 yX4_copyFrom, Cond.methodLink RL 69 yX7_keep, Cond.instanceMethod yX7_keep, Cond.selects RX7 yX7_keep yX7_keep, Cond.code yX7_keep cX7_keep 2 (some .int), Cond.fieldLink RX7 147 "NamePlateModel" "isFilled" "Z", Cond.methodLink RL 70 yX6_restore, Cond.instanceMethod yX6_restore, Cond.selects RX6 yX6_restore yX6_restore, Cond.code yX6_restore cX6_restore 1 (some .int), Cond.methodLink RL 73 yX7_restore, Cond.instanceMethod yX7_restore, Cond.selects RX7 yX7_restore yX7_restore, Cond.code yX7_restore cX7_restore 2 (some .int), Cond.methodLink RL 74 yX6_name, Cond.instanceMethod yX6_name, Cond.selects RX6 yX6_name yX6_name]
def wsL_law_r26 : List Cond := [Cond.code yX6_name cX6_name 3 (some .int), Cond.methodLink RX6 168 yX1_lengthOf, Cond.methodLink RX6 171 yX4_unitsOf, Cond.methodLink RX6 174 yX4_rowOf, Cond.methodLink RX6 177 yX4_columnOf, Cond.methodLink RX6 180 yX4_inkOf, Cond.methodLink RX6 183 yX6_nameBySize, Cond.instanceMethod yX6_nameBySize, Cond.selects RX6 yX6_nameBySize yX6_nameBySize, Cond.code yX6_nameBySize cX6_nameBySize 4 (some .int), Cond.methodLink RX6 187 yX4_rowBegin, Cond.instanceMethod yX4_rowBegin, Cond.selects RX4 yX4_rowBegin yX4_rowBegin, Cond.code yX4_rowBegin cX4_rowBegin 3 (some .int), Cond.methodLink RX6 190 yX4_middleBegin, Cond.instanceMethod yX4_middleBegin, Cond.selects RX4 yX4_middleBegin yX4_middleBegin, Cond.code yX4_middleBegin cX4_middleBegin 5 (some .int), Cond.methodLink RL 77 yX7_name, Cond.instanceMethod yX7_name, Cond.selects RX7 yX7_name yX7_name, Cond.code yX7_name cX7_name 5 (some .int), Cond.methodLink RL 78 yX6_sign, Cond.instanceMethod yX6_sign]
def wsL_law_r27 : List Cond := [Cond.selects RX6 yX6_sign yX6_sign, Cond.code yX6_sign cX6_sign 5 (some .int), Cond.methodLink RX6 193 yX1_isIn, Cond.instanceMethod yX1_isIn, Cond.selects RX1 yX1_isIn yX1_isIn, Cond.code yX1_isIn cX1_isIn 3 (some .boolean), Cond.methodLink RX1 33 yX1_lengthOf, Cond.methodLink RX6 196 yX1_codeAt, Cond.methodLink RX6 200 yX4_unitsBefore, Cond.methodLink RX6 203 yX3_width, Cond.methodLink RX6 207 yX1_isLast, Cond.instanceMethod yX1_isLast, Cond.selects RX1 yX1_isLast yX1_isLast, Cond.code yX1_isLast cX1_isLast 3 (some .boolean), Cond.methodLink RX6 210 yX4_spaceBehind, Cond.methodLink RX6 213 yX4_measuredSpace, Cond.instanceMethod yX4_measuredSpace, Cond.selects RX4 yX4_measuredSpace yX4_measuredSpace, Cond.code yX4_measuredSpace cX4_measuredSpace 3 (some .int), Cond.methodLink RX6 216 yX6_signBegin, Cond.instanceMethod yX6_signBegin, Cond.selects RX6 yX6_signBegin yX6_signBegin, Cond.code yX6_signBegin cX6_signBegin 4 (some .int), Cond.methodLink RL 82 yX7_sign]
def wsL_law_r28 : List Cond := [Cond.instanceMethod yX7_sign, Cond.selects RX7 yX7_sign yX7_sign, Cond.code yX7_sign cX7_sign 6 (some .int), Cond.methodLink RL 83 yX6_signAt, Cond.instanceMethod yX6_signAt, Cond.selects RX6 yX6_signAt yX6_signAt, Cond.code yX6_signAt cX6_signAt 7 (some .int), Cond.methodLink RX6 219 yX4_indexAt, Cond.instanceMethod yX4_indexAt, Cond.selects RX4 yX4_indexAt yX4_indexAt, Cond.code yX4_indexAt cX4_indexAt 7 (some .int), Cond.methodLink RX4 163 yX4_beginOf, Cond.methodLink RL 86 yX7_signAt, Cond.instanceMethod yX7_signAt, Cond.selects RX7 yX7_signAt yX7_signAt, Cond.code yX7_signAt cX7_signAt 9 (some .int), Cond.methodLink RL 87 yX6_size, Cond.instanceMethod yX6_size, Cond.selects RX6 yX6_size yX6_size, Cond.code yX6_size cX6_size 1 (some .int), Cond.methodLink RL 90 yX7_size, Cond.methodLink RL 91 yX6_sizeBy, Cond.instanceMethod yX6_sizeBy, Cond.selects RX6 yX6_sizeBy yX6_sizeBy]
def wsL_law_r29 : List Cond := [Cond.code yX6_sizeBy cX6_sizeBy 3 (some .int), Cond.methodLink RX6 222 yX4_mostUnits, Cond.methodLink RX6 225 yX4_greatestSize, Cond.methodLink RL 94 yX7_sizeBy, Cond.instanceMethod yX7_sizeBy, Cond.selects RX7 yX7_sizeBy yX7_sizeBy, Cond.code yX7_sizeBy cX7_sizeBy 3 (some .int), Cond.methodLink RL 95 yX6_sizeWithout, Cond.instanceMethod yX6_sizeWithout, Cond.selects RX6 yX6_sizeWithout yX6_sizeWithout, Cond.code yX6_sizeWithout cX6_sizeWithout 2 (some .int), Cond.methodLink RL 98 yX7_sizeWithout, Cond.instanceMethod yX7_sizeWithout, Cond.selects RX7 yX7_sizeWithout yX7_sizeWithout, Cond.code yX7_sizeWithout cX7_sizeWithout 2 (some .int), Cond.methodLink RL 99 yX6_leastWidth, Cond.instanceMethod yX6_leastWidth, Cond.selects RX6 yX6_leastWidth yX6_leastWidth, Cond.code yX6_leastWidth cX6_leastWidth 3 (some .int), Cond.methodLink RX6 234 Lib.Math.max.name, Cond.methodLink RL 102 yX7_leastWidth, Cond.instanceMethod yX7_leastWidth, Cond.selects RX7 yX7_leastWidth yX7_leastWidth, Cond.code yX7_leastWidth cX7_leastWidth 3 (some .int)]
def wsL_law_r30 : List Cond := [Cond.methodLink RL 103 yX6_longest, Cond.instanceMethod yX6_longest, Cond.selects RX6 yX6_longest yX6_longest, Cond.code yX6_longest cX6_longest 3 (some .int), Cond.methodLink RL 106 yX7_longest, Cond.instanceMethod yX7_longest, Cond.selects RX7 yX7_longest yX7_longest, Cond.code yX7_longest cX7_longest 3 (some .int), Cond.methodLink RL 107 yX6_adjustment, Cond.instanceMethod yX6_adjustment, Cond.selects RX6 yX6_adjustment yX6_adjustment, Cond.code yX6_adjustment cX6_adjustment 3 (some .int), Cond.methodLink RL 111 yX7_adjustment, Cond.instanceMethod yX7_adjustment, Cond.selects RX7 yX7_adjustment yX7_adjustment, Cond.code yX7_adjustment cX7_adjustment 3 (some .int), Cond.methodLink RL 112 yX6_pair, Cond.instanceMethod yX6_pair, Cond.selects RX6 yX6_pair yX6_pair, Cond.code yX6_pair cX6_pair 3 (some .int), Cond.methodLink RX6 239 yX2_isPlace, Cond.methodLink RX6 242 yX2_leftAt, Cond.instanceMethod yX2_leftAt, Cond.selects RX2 yX2_leftAt yX2_leftAt]
def wsL_law_r31 : List Cond := [Cond.code yX2_leftAt cX2_leftAt 2 (some .char), Cond.methodLink RX6 245 yX2_rightAt, Cond.instanceMethod yX2_rightAt, Cond.selects RX2 yX2_rightAt yX2_rightAt, Cond.code yX2_rightAt cX2_rightAt 2 (some .char), Cond.methodLink RX6 248 yX2_adjustmentAt, Cond.methodLink RL 115 yX7_pair, Cond.instanceMethod yX7_pair, Cond.selects RX7 yX7_pair yX7_pair, Cond.code yX7_pair cX7_pair 3 (some .int), Cond.methodLink RL 116 yX6_count, Cond.instanceMethod yX6_count, Cond.selects RX6 yX6_count yX6_count, Cond.code yX6_count cX6_count 2 (some .int), Cond.methodLink RX6 251 yX4_engravedNames, Cond.methodLink RX6 254 yX4_rowsFor, Cond.methodLink RL 119 yX7_count, Cond.instanceMethod yX7_count, Cond.selects RX7 yX7_count yX7_count, Cond.code yX7_count cX7_count 2 (some .int)]
def wsL_law : List Cond := (wsL_law_r1 ++ (wsL_law_r2 ++ (wsL_law_r3 ++ (wsL_law_r4 ++ (wsL_law_r5 ++ (wsL_law_r6 ++ (wsL_law_r7 ++ (wsL_law_r8 ++ (wsL_law_r9 ++ (wsL_law_r10 ++ (wsL_law_r11 ++ (wsL_law_r12 ++ (wsL_law_r13 ++ (wsL_law_r14 ++ (wsL_law_r15 ++ (wsL_law_r16 ++ (wsL_law_r17 ++ (wsL_law_r18 ++ (wsL_law_r19 ++ (wsL_law_r20 ++ (wsL_law_r21 ++ (wsL_law_r22 ++ (wsL_law_r23 ++ (wsL_law_r24 ++ (wsL_law_r25 ++ (wsL_law_r26 ++ (wsL_law_r27 ++ (wsL_law_r28 ++ (wsL_law_r29 ++ (wsL_law_r30 ++ wsL_law_r31)))))))))))))))))))))))))))))) ++ wsX60 ++ wsX70 ++ wsX40 ++ wsX00 ++ wsX50 ++ wsX10 ++ wsX20 ++ ([] : List Cond)
set_option maxRecDepth 20000 in
theorem ggX0_init_X4_init : GoodIn wsX0_init wsX4_init := goodIn_r _ [11, 12, 2, 3, 13, 14, 15, 16, 17, 18, 19, 20, 21, 22, 23, 24, 25, 26, 27, 28, 29, 30, 31, 32, 33, 34, 35, 36, 37, 38, 39, 40, 41, 42, 43, 57, 58, 59, 47, 48, 49, 50, 51, 52, 53, 54, 55, 56, 60, 61, 62, 63] (by decide +kernel) (by decide +kernel)
set_option maxRecDepth 20000 in
theorem gX0_init_X4_init_n24 : GoodIn wsX0_init (wsX4_init) := ggX0_init_X4_init
theorem dX0_init_0 : decode cX0_init 0 = .ok (.aload_n 0, 1) := by decide +kernel
theorem dX0_init_1 : decode cX0_init 1 = .ok (.invokespecial 3, 3) := by decide +kernel
theorem dX0_init_4 : decode cX0_init 4 = .ok (.aload_n 0, 1) := by decide +kernel
theorem dX0_init_5 : decode cX0_init 5 = .ok (.iconst 5, 1) := by decide +kernel
theorem dX0_init_6 : decode cX0_init 6 = .ok (.anewarray 9, 3) := by decide +kernel
theorem dX0_init_9 : decode cX0_init 9 = .ok (.putfield 11, 3) := by decide +kernel
theorem dX0_init_12 : decode cX0_init 12 = .ok (.aload_n 0, 1) := by decide +kernel
theorem dX0_init_13 : decode cX0_init 13 = .ok (.iconst 0, 1) := by decide +kernel
theorem dX0_init_14 : decode cX0_init 14 = .ok (.putfield 17, 3) := by decide +kernel
theorem dX0_init_17 : decode cX0_init 17 = .ok (.aload_n 0, 1) := by decide +kernel
theorem dX0_init_18 : decode cX0_init 18 = .ok (.iconst 0, 1) := by decide +kernel
theorem dX0_init_19 : decode cX0_init 19 = .ok (.putfield 21, 3) := by decide +kernel
theorem dX0_init_22 : decode cX0_init 22 = .ok (.iconst 0, 1) := by decide +kernel
theorem dX0_init_23 : decode cX0_init 23 = .ok (.istore_n 1, 1) := by decide +kernel
theorem dX0_init_24 : decode cX0_init 24 = .ok (.iload_n 1, 1) := by decide +kernel
theorem dX0_init_25 : decode cX0_init 25 = .ok (.iconst 5, 1) := by decide +kernel
theorem dX0_init_26 : decode cX0_init 26 = .ok (.if_icmp .ge 22, 3) := by decide +kernel
theorem dX0_init_29 : decode cX0_init 29 = .ok (.aload_n 0, 1) := by decide +kernel
theorem dX0_init_30 : decode cX0_init 30 = .ok (.getfield 11, 3) := by decide +kernel
theorem dX0_init_33 : decode cX0_init 33 = .ok (.iload_n 1, 1) := by decide +kernel
theorem dX0_init_34 : decode cX0_init 34 = .ok (.new 9, 3) := by decide +kernel
theorem dX0_init_37 : decode cX0_init 37 = .ok (.dup, 1) := by decide +kernel
theorem dX0_init_38 : decode cX0_init 38 = .ok (.invokespecial 24, 3) := by decide +kernel
theorem dX0_init_41 : decode cX0_init 41 = .ok (.aastore, 1) := by decide +kernel
theorem dX0_init_42 : decode cX0_init 42 = .ok (.iinc 1 1, 3) := by decide +kernel
theorem dX0_init_45 : decode cX0_init 45 = .ok (.goto (-21), 3) := by decide +kernel
theorem dX0_init_48 : decode cX0_init 48 = .ok (.return_, 1) := by decide +kernel
set_option maxRecDepth 20000 in
theorem ggX0_record_X0_slotAt : GoodIn wsX0_record wsX0_slotAt := goodIn_r _ [7, 2, 8, 46, 47, 48] (by decide +kernel) (by decide +kernel)
set_option maxRecDepth 20000 in
theorem gX0_record_X0_slotAt : GoodIn wsX0_record (wsV RX0 25 RX0 yX0_slotAt wsX0_slotAt) := goodIn_app (goodIn_of _ (by decide +kernel)) ggX0_record_X0_slotAt
set_option maxRecDepth 20000 in
theorem ggX0_record_X4_copyFrom : GoodIn wsX0_record wsX4_copyFrom := goodIn_r _ [13, 14, 15, 16, 17, 18, 19, 20, 21, 22, 23, 24, 25, 26, 27, 28, 29, 30, 31, 32, 33, 34, 35, 36, 37, 38, 39, 40, 41, 42, 43, 44, 45, 49, 50, 51, 52, 53, 54, 55, 56, 57, 58, 59, 60, 61, 62, 63, 64, 65] (by decide +kernel) (by decide +kernel)
set_option maxRecDepth 20000 in
theorem gX0_record_X4_copyFrom : GoodIn wsX0_record (wsV RX0 29 RX4 yX4_copyFrom wsX4_copyFrom) := goodIn_app (goodIn_of _ (by decide +kernel)) ggX0_record_X4_copyFrom
theorem dX0_record_0 : decode cX0_record 0 = .ok (.aload_n 0, 1) := by decide +kernel
theorem dX0_record_1 : decode cX0_record 1 = .ok (.getfield 21, 3) := by decide +kernel
theorem dX0_record_4 : decode cX0_record 4 = .ok (.iconst 5, 1) := by decide +kernel
theorem dX0_record_5 : decode cX0_record 5 = .ok (.if_icmp .lt 25, 3) := by decide +kernel
theorem dX0_record_8 : decode cX0_record 8 = .ok (.aload_n 0, 1) := by decide +kernel
theorem dX0_record_9 : decode cX0_record 9 = .ok (.aload_n 0, 1) := by decide +kernel
theorem dX0_record_10 : decode cX0_record 10 = .ok (.getfield 17, 3) := by decide +kernel
theorem dX0_record_13 : decode cX0_record 13 = .ok (.iconst 1, 1) := by decide +kernel
theorem dX0_record_14 : decode cX0_record 14 = .ok (.iadd, 1) := by decide +kernel
theorem dX0_record_15 : decode cX0_record 15 = .ok (.iconst 5, 1) := by decide +kernel
theorem dX0_record_16 : decode cX0_record 16 = .ok (.irem, 1) := by decide +kernel
theorem dX0_record_17 : decode cX0_record 17 = .ok (.putfield 17, 3) := by decide +kernel
theorem dX0_record_20 : decode cX0_record 20 = .ok (.aload_n 0, 1) := by decide +kernel
theorem dX0_record_21 : decode cX0_record 21 = .ok (.dup, 1) := by decide +kernel
theorem dX0_record_22 : decode cX0_record 22 = .ok (.getfield 21, 3) := by decide +kernel
theorem dX0_record_25 : decode cX0_record 25 = .ok (.iconst 1, 1) := by decide +kernel
theorem dX0_record_26 : decode cX0_record 26 = .ok (.isub, 1) := by decide +kernel
theorem dX0_record_27 : decode cX0_record 27 = .ok (.putfield 21, 3) := by decide +kernel
theorem dX0_record_30 : decode cX0_record 30 = .ok (.aload_n 0, 1) := by decide +kernel
theorem dX0_record_31 : decode cX0_record 31 = .ok (.aload_n 0, 1) := by decide +kernel
theorem dX0_record_32 : decode cX0_record 32 = .ok (.getfield 21, 3) := by decide +kernel
theorem dX0_record_35 : decode cX0_record 35 = .ok (.invokevirtual 25, 3) := by decide +kernel
theorem dX0_record_38 : decode cX0_record 38 = .ok (.astore_n 2, 1) := by decide +kernel
theorem dX0_record_39 : decode cX0_record 39 = .ok (.aload_n 2, 1) := by decide +kernel
theorem dX0_record_40 : decode cX0_record 40 = .ok (.ifnull 18, 3) := by decide +kernel
theorem dX0_record_43 : decode cX0_record 43 = .ok (.aload_n 2, 1) := by decide +kernel
theorem dX0_record_44 : decode cX0_record 44 = .ok (.aload_n 1, 1) := by decide +kernel
theorem dX0_record_45 : decode cX0_record 45 = .ok (.invokevirtual 29, 3) := by decide +kernel
theorem dX0_record_48 : decode cX0_record 48 = .ok (.aload_n 0, 1) := by decide +kernel
theorem dX0_record_49 : decode cX0_record 49 = .ok (.dup, 1) := by decide +kernel
theorem dX0_record_50 : decode cX0_record 50 = .ok (.getfield 21, 3) := by decide +kernel
theorem dX0_record_53 : decode cX0_record 53 = .ok (.iconst 1, 1) := by decide +kernel
theorem dX0_record_54 : decode cX0_record 54 = .ok (.iadd, 1) := by decide +kernel
theorem dX0_record_55 : decode cX0_record 55 = .ok (.putfield 21, 3) := by decide +kernel
theorem dX0_record_58 : decode cX0_record 58 = .ok (.return_, 1) := by decide +kernel
set_option maxRecDepth 20000 in
theorem ggX0_takeLatest_X0_slotAt : GoodIn wsX0_takeLatest wsX0_slotAt := goodIn_r _ [6, 7, 8, 46, 47, 48] (by decide +kernel) (by decide +kernel)
set_option maxRecDepth 20000 in
theorem gX0_takeLatest_X0_slotAt : GoodIn wsX0_takeLatest (wsV RX0 25 RX0 yX0_slotAt wsX0_slotAt) := goodIn_app (goodIn_of _ (by decide +kernel)) ggX0_takeLatest_X0_slotAt
set_option maxRecDepth 20000 in
theorem ggX0_takeLatest_X4_copyFrom : GoodIn wsX0_takeLatest wsX4_copyFrom := goodIn_r _ [13, 14, 15, 16, 17, 18, 19, 20, 21, 22, 23, 24, 25, 26, 27, 28, 29, 30, 31, 32, 33, 34, 35, 36, 37, 38, 39, 40, 41, 42, 43, 44, 45, 49, 50, 51, 52, 53, 54, 55, 56, 57, 58, 59, 60, 61, 62, 63, 64, 65] (by decide +kernel) (by decide +kernel)
set_option maxRecDepth 20000 in
theorem gX0_takeLatest_X4_copyFrom : GoodIn wsX0_takeLatest (wsV RX0 29 RX4 yX4_copyFrom wsX4_copyFrom) := goodIn_app (goodIn_of _ (by decide +kernel)) ggX0_takeLatest_X4_copyFrom
theorem dX0_takeLatest_0 : decode cX0_takeLatest 0 = .ok (.aload_n 0, 1) := by decide +kernel
theorem dX0_takeLatest_1 : decode cX0_takeLatest 1 = .ok (.aload_n 0, 1) := by decide +kernel
theorem dX0_takeLatest_2 : decode cX0_takeLatest 2 = .ok (.getfield 21, 3) := by decide +kernel
theorem dX0_takeLatest_5 : decode cX0_takeLatest 5 = .ok (.iconst 1, 1) := by decide +kernel
theorem dX0_takeLatest_6 : decode cX0_takeLatest 6 = .ok (.isub, 1) := by decide +kernel
theorem dX0_takeLatest_7 : decode cX0_takeLatest 7 = .ok (.invokevirtual 25, 3) := by decide +kernel
theorem dX0_takeLatest_10 : decode cX0_takeLatest 10 = .ok (.astore_n 2, 1) := by decide +kernel
theorem dX0_takeLatest_11 : decode cX0_takeLatest 11 = .ok (.aload_n 0, 1) := by decide +kernel
theorem dX0_takeLatest_12 : decode cX0_takeLatest 12 = .ok (.getfield 21, 3) := by decide +kernel
theorem dX0_takeLatest_15 : decode cX0_takeLatest 15 = .ok (.ifCond .le 22, 3) := by decide +kernel
theorem dX0_takeLatest_18 : decode cX0_takeLatest 18 = .ok (.aload_n 2, 1) := by decide +kernel
theorem dX0_takeLatest_19 : decode cX0_takeLatest 19 = .ok (.ifnull 18, 3) := by decide +kernel
theorem dX0_takeLatest_22 : decode cX0_takeLatest 22 = .ok (.aload_n 1, 1) := by decide +kernel
theorem dX0_takeLatest_23 : decode cX0_takeLatest 23 = .ok (.aload_n 2, 1) := by decide +kernel
theorem dX0_takeLatest_24 : decode cX0_takeLatest 24 = .ok (.invokevirtual 29, 3) := by decide +kernel
theorem dX0_takeLatest_27 : decode cX0_takeLatest 27 = .ok (.aload_n 0, 1) := by decide +kernel
theorem dX0_takeLatest_28 : decode cX0_takeLatest 28 = .ok (.dup, 1) := by decide +kernel
theorem dX0_takeLatest_29 : decode cX0_takeLatest 29 = .ok (.getfield 21, 3) := by decide +kernel
theorem dX0_takeLatest_32 : decode cX0_takeLatest 32 = .ok (.iconst 1, 1) := by decide +kernel
theorem dX0_takeLatest_33 : decode cX0_takeLatest 33 = .ok (.isub, 1) := by decide +kernel
theorem dX0_takeLatest_34 : decode cX0_takeLatest 34 = .ok (.putfield 21, 3) := by decide +kernel
theorem dX0_takeLatest_37 : decode cX0_takeLatest 37 = .ok (.return_, 1) := by decide +kernel
theorem dX0_slotAt_0 : decode cX0_slotAt 0 = .ok (.aload_n 0, 1) := by decide +kernel
theorem dX0_slotAt_1 : decode cX0_slotAt 1 = .ok (.getfield 17, 3) := by decide +kernel
theorem dX0_slotAt_4 : decode cX0_slotAt 4 = .ok (.iload_n 1, 1) := by decide +kernel
theorem dX0_slotAt_5 : decode cX0_slotAt 5 = .ok (.iadd, 1) := by decide +kernel
theorem dX0_slotAt_6 : decode cX0_slotAt 6 = .ok (.iconst 5, 1) := by decide +kernel
theorem dX0_slotAt_7 : decode cX0_slotAt 7 = .ok (.irem, 1) := by decide +kernel
theorem dX0_slotAt_8 : decode cX0_slotAt 8 = .ok (.istore_n 2, 1) := by decide +kernel
theorem dX0_slotAt_9 : decode cX0_slotAt 9 = .ok (.iload_n 2, 1) := by decide +kernel
theorem dX0_slotAt_10 : decode cX0_slotAt 10 = .ok (.ifCond .lt 21, 3) := by decide +kernel
theorem dX0_slotAt_13 : decode cX0_slotAt 13 = .ok (.iload_n 2, 1) := by decide +kernel
theorem dX0_slotAt_14 : decode cX0_slotAt 14 = .ok (.aload_n 0, 1) := by decide +kernel
theorem dX0_slotAt_15 : decode cX0_slotAt 15 = .ok (.getfield 11, 3) := by decide +kernel
theorem dX0_slotAt_18 : decode cX0_slotAt 18 = .ok (.arraylength, 1) := by decide +kernel
theorem dX0_slotAt_19 : decode cX0_slotAt 19 = .ok (.if_icmp .ge 12, 3) := by decide +kernel
theorem dX0_slotAt_22 : decode cX0_slotAt 22 = .ok (.aload_n 0, 1) := by decide +kernel
theorem dX0_slotAt_23 : decode cX0_slotAt 23 = .ok (.getfield 11, 3) := by decide +kernel
theorem dX0_slotAt_26 : decode cX0_slotAt 26 = .ok (.iload_n 2, 1) := by decide +kernel
theorem dX0_slotAt_27 : decode cX0_slotAt 27 = .ok (.aaload, 1) := by decide +kernel
theorem dX0_slotAt_28 : decode cX0_slotAt 28 = .ok (.goto 4, 3) := by decide +kernel
theorem dX0_slotAt_31 : decode cX0_slotAt 31 = .ok (.aconst_null, 1) := by decide +kernel
end
section
theorem dX0_slotAt_32 : decode cX0_slotAt 32 = .ok (.areturn, 1) := by decide +kernel
theorem dX1_init_0 : decode cX1_init 0 = .ok (.aload_n 0, 1) := by decide +kernel
theorem dX1_init_1 : decode cX1_init 1 = .ok (.invokespecial 3, 3) := by decide +kernel
theorem dX1_init_4 : decode cX1_init 4 = .ok (.aload_n 0, 1) := by decide +kernel
theorem dX1_init_5 : decode cX1_init 5 = .ok (.sipush 320, 3) := by decide +kernel
theorem dX1_init_8 : decode cX1_init 8 = .ok (.newarray .char, 2) := by decide +kernel
theorem dX1_init_10 : decode cX1_init 10 = .ok (.putfield 9, 3) := by decide +kernel
theorem dX1_init_13 : decode cX1_init 13 = .ok (.aload_n 0, 1) := by decide +kernel
theorem dX1_init_14 : decode cX1_init 14 = .ok (.bipush 20, 2) := by decide +kernel
theorem dX1_init_16 : decode cX1_init 16 = .ok (.newarray .int, 2) := by decide +kernel
theorem dX1_init_18 : decode cX1_init 18 = .ok (.putfield 15, 3) := by decide +kernel
theorem dX1_init_21 : decode cX1_init 21 = .ok (.aload_n 0, 1) := by decide +kernel
theorem dX1_init_22 : decode cX1_init 22 = .ok (.iconst 0, 1) := by decide +kernel
theorem dX1_init_23 : decode cX1_init 23 = .ok (.putfield 19, 3) := by decide +kernel
theorem dX1_init_26 : decode cX1_init 26 = .ok (.return_, 1) := by decide +kernel
theorem dX1_copyFrom_0 : decode cX1_copyFrom 0 = .ok (.aload_n 1, 1) := by decide +kernel
theorem dX1_copyFrom_1 : decode cX1_copyFrom 1 = .ok (.getfield 9, 3) := by decide +kernel
theorem dX1_copyFrom_4 : decode cX1_copyFrom 4 = .ok (.iconst 0, 1) := by decide +kernel
theorem dX1_copyFrom_5 : decode cX1_copyFrom 5 = .ok (.aload_n 0, 1) := by decide +kernel
theorem dX1_copyFrom_6 : decode cX1_copyFrom 6 = .ok (.getfield 9, 3) := by decide +kernel
theorem dX1_copyFrom_9 : decode cX1_copyFrom 9 = .ok (.iconst 0, 1) := by decide +kernel
theorem dX1_copyFrom_10 : decode cX1_copyFrom 10 = .ok (.aload_n 0, 1) := by decide +kernel
theorem dX1_copyFrom_11 : decode cX1_copyFrom 11 = .ok (.getfield 9, 3) := by decide +kernel
theorem dX1_copyFrom_14 : decode cX1_copyFrom 14 = .ok (.arraylength, 1) := by decide +kernel
theorem dX1_copyFrom_15 : decode cX1_copyFrom 15 = .ok (.invokestatic 23, 3) := by decide +kernel
theorem dX1_copyFrom_18 : decode cX1_copyFrom 18 = .ok (.aload_n 1, 1) := by decide +kernel
theorem dX1_copyFrom_19 : decode cX1_copyFrom 19 = .ok (.getfield 15, 3) := by decide +kernel
theorem dX1_copyFrom_22 : decode cX1_copyFrom 22 = .ok (.iconst 0, 1) := by decide +kernel
theorem dX1_copyFrom_23 : decode cX1_copyFrom 23 = .ok (.aload_n 0, 1) := by decide +kernel
theorem dX1_copyFrom_24 : decode cX1_copyFrom 24 = .ok (.getfield 15, 3) := by decide +kernel
theorem dX1_copyFrom_27 : decode cX1_copyFrom 27 = .ok (.iconst 0, 1) := by decide +kernel
theorem dX1_copyFrom_28 : decode cX1_copyFrom 28 = .ok (.aload_n 0, 1) := by decide +kernel
theorem dX1_copyFrom_29 : decode cX1_copyFrom 29 = .ok (.getfield 15, 3) := by decide +kernel
theorem dX1_copyFrom_32 : decode cX1_copyFrom 32 = .ok (.arraylength, 1) := by decide +kernel
theorem dX1_copyFrom_33 : decode cX1_copyFrom 33 = .ok (.invokestatic 23, 3) := by decide +kernel
theorem dX1_copyFrom_36 : decode cX1_copyFrom 36 = .ok (.aload_n 0, 1) := by decide +kernel
theorem dX1_copyFrom_37 : decode cX1_copyFrom 37 = .ok (.aload_n 1, 1) := by decide +kernel
theorem dX1_copyFrom_38 : decode cX1_copyFrom 38 = .ok (.getfield 19, 3) := by decide +kernel
theorem dX1_copyFrom_41 : decode cX1_copyFrom 41 = .ok (.putfield 19, 3) := by decide +kernel
theorem dX1_copyFrom_44 : decode cX1_copyFrom 44 = .ok (.return_, 1) := by decide +kernel
theorem dX1_isTaken_0 : decode cX1_isTaken 0 = .ok (.iload_n 1, 1) := by decide +kernel
theorem dX1_isTaken_1 : decode cX1_isTaken 1 = .ok (.ifCond .lt 21, 3) := by decide +kernel
theorem dX1_isTaken_4 : decode cX1_isTaken 4 = .ok (.iload_n 1, 1) := by decide +kernel
theorem dX1_isTaken_5 : decode cX1_isTaken 5 = .ok (.aload_n 0, 1) := by decide +kernel
theorem dX1_isTaken_6 : decode cX1_isTaken 6 = .ok (.getfield 19, 3) := by decide +kernel
theorem dX1_isTaken_9 : decode cX1_isTaken 9 = .ok (.if_icmp .ge 13, 3) := by decide +kernel
theorem dX1_isTaken_12 : decode cX1_isTaken 12 = .ok (.iload_n 1, 1) := by decide +kernel
theorem dX1_isTaken_13 : decode cX1_isTaken 13 = .ok (.bipush 20, 2) := by decide +kernel
theorem dX1_isTaken_15 : decode cX1_isTaken 15 = .ok (.if_icmp .ge 7, 3) := by decide +kernel
theorem dX1_isTaken_18 : decode cX1_isTaken 18 = .ok (.iconst 1, 1) := by decide +kernel
theorem dX1_isTaken_19 : decode cX1_isTaken 19 = .ok (.goto 4, 3) := by decide +kernel
theorem dX1_isTaken_22 : decode cX1_isTaken 22 = .ok (.iconst 0, 1) := by decide +kernel
theorem dX1_isTaken_23 : decode cX1_isTaken 23 = .ok (.ireturn, 1) := by decide +kernel
set_option maxRecDepth 20000 in
theorem ggX1_isIn_X1_isTaken : GoodIn wsX1_isIn wsX1_isTaken := goodIn_r _ [5, 6, 12, 13, 14] (by decide +kernel) (by decide +kernel)
set_option maxRecDepth 20000 in
theorem gX1_isIn_X1_isTaken : GoodIn wsX1_isIn (wsV RX1 29 RX1 yX1_isTaken wsX1_isTaken) := goodIn_app (goodIn_of _ (by decide +kernel)) ggX1_isIn_X1_isTaken
set_option maxRecDepth 20000 in
theorem ggX1_isIn_X1_lengthOf : GoodIn wsX1_isIn wsX1_lengthOf := goodIn_r _ [10, 11, 12, 13, 14] (by decide +kernel) (by decide +kernel)
set_option maxRecDepth 20000 in
theorem gX1_isIn_X1_lengthOf : GoodIn wsX1_isIn (wsV RX1 33 RX1 yX1_lengthOf wsX1_lengthOf) := goodIn_app (goodIn_of _ (by decide +kernel)) ggX1_isIn_X1_lengthOf
theorem dX1_isIn_0 : decode cX1_isIn 0 = .ok (.aload_n 0, 1) := by decide +kernel
theorem dX1_isIn_1 : decode cX1_isIn 1 = .ok (.iload_n 1, 1) := by decide +kernel
theorem dX1_isIn_2 : decode cX1_isIn 2 = .ok (.invokevirtual 29, 3) := by decide +kernel
theorem dX1_isIn_5 : decode cX1_isIn 5 = .ok (.ifCond .eq 20, 3) := by decide +kernel
theorem dX1_isIn_8 : decode cX1_isIn 8 = .ok (.iload_n 2, 1) := by decide +kernel
theorem dX1_isIn_9 : decode cX1_isIn 9 = .ok (.ifCond .lt 16, 3) := by decide +kernel
theorem dX1_isIn_12 : decode cX1_isIn 12 = .ok (.iload_n 2, 1) := by decide +kernel
theorem dX1_isIn_13 : decode cX1_isIn 13 = .ok (.aload_n 0, 1) := by decide +kernel
theorem dX1_isIn_14 : decode cX1_isIn 14 = .ok (.iload_n 1, 1) := by decide +kernel
theorem dX1_isIn_15 : decode cX1_isIn 15 = .ok (.invokevirtual 33, 3) := by decide +kernel
theorem dX1_isIn_18 : decode cX1_isIn 18 = .ok (.if_icmp .ge 7, 3) := by decide +kernel
theorem dX1_isIn_21 : decode cX1_isIn 21 = .ok (.iconst 1, 1) := by decide +kernel
theorem dX1_isIn_22 : decode cX1_isIn 22 = .ok (.goto 4, 3) := by decide +kernel
theorem dX1_isIn_25 : decode cX1_isIn 25 = .ok (.iconst 0, 1) := by decide +kernel
theorem dX1_isIn_26 : decode cX1_isIn 26 = .ok (.ireturn, 1) := by decide +kernel
set_option maxRecDepth 20000 in
theorem ggX1_isLast_X1_lengthOf : GoodIn wsX1_isLast wsX1_lengthOf := goodIn_r _ [5, 6, 7, 8, 9] (by decide +kernel) (by decide +kernel)
set_option maxRecDepth 20000 in
theorem gX1_isLast_X1_lengthOf : GoodIn wsX1_isLast (wsV RX1 33 RX1 yX1_lengthOf wsX1_lengthOf) := goodIn_app (goodIn_of _ (by decide +kernel)) ggX1_isLast_X1_lengthOf
theorem dX1_isLast_0 : decode cX1_isLast 0 = .ok (.iload_n 2, 1) := by decide +kernel
theorem dX1_isLast_1 : decode cX1_isLast 1 = .ok (.aload_n 0, 1) := by decide +kernel
theorem dX1_isLast_2 : decode cX1_isLast 2 = .ok (.iload_n 1, 1) := by decide +kernel
theorem dX1_isLast_3 : decode cX1_isLast 3 = .ok (.invokevirtual 33, 3) := by decide +kernel
theorem dX1_isLast_6 : decode cX1_isLast 6 = .ok (.iconst 1, 1) := by decide +kernel
theorem dX1_isLast_7 : decode cX1_isLast 7 = .ok (.isub, 1) := by decide +kernel
theorem dX1_isLast_8 : decode cX1_isLast 8 = .ok (.if_icmp .ne 7, 3) := by decide +kernel
theorem dX1_isLast_11 : decode cX1_isLast 11 = .ok (.iconst 1, 1) := by decide +kernel
theorem dX1_isLast_12 : decode cX1_isLast 12 = .ok (.goto 4, 3) := by decide +kernel
theorem dX1_isLast_15 : decode cX1_isLast 15 = .ok (.iconst 0, 1) := by decide +kernel
theorem dX1_isLast_16 : decode cX1_isLast 16 = .ok (.ireturn, 1) := by decide +kernel
theorem dX1_lengthOf_0 : decode cX1_lengthOf 0 = .ok (.iload_n 1, 1) := by decide +kernel
theorem dX1_lengthOf_1 : decode cX1_lengthOf 1 = .ok (.ifCond .lt 21, 3) := by decide +kernel
theorem dX1_lengthOf_4 : decode cX1_lengthOf 4 = .ok (.iload_n 1, 1) := by decide +kernel
theorem dX1_lengthOf_5 : decode cX1_lengthOf 5 = .ok (.aload_n 0, 1) := by decide +kernel
theorem dX1_lengthOf_6 : decode cX1_lengthOf 6 = .ok (.getfield 15, 3) := by decide +kernel
theorem dX1_lengthOf_9 : decode cX1_lengthOf 9 = .ok (.arraylength, 1) := by decide +kernel
theorem dX1_lengthOf_10 : decode cX1_lengthOf 10 = .ok (.if_icmp .ge 12, 3) := by decide +kernel
theorem dX1_lengthOf_13 : decode cX1_lengthOf 13 = .ok (.aload_n 0, 1) := by decide +kernel
theorem dX1_lengthOf_14 : decode cX1_lengthOf 14 = .ok (.getfield 15, 3) := by decide +kernel
theorem dX1_lengthOf_17 : decode cX1_lengthOf 17 = .ok (.iload_n 1, 1) := by decide +kernel
theorem dX1_lengthOf_18 : decode cX1_lengthOf 18 = .ok (.iaload, 1) := by decide +kernel
theorem dX1_lengthOf_19 : decode cX1_lengthOf 19 = .ok (.goto 4, 3) := by decide +kernel
theorem dX1_lengthOf_22 : decode cX1_lengthOf 22 = .ok (.iconst 0, 1) := by decide +kernel
theorem dX1_lengthOf_23 : decode cX1_lengthOf 23 = .ok (.ireturn, 1) := by decide +kernel
theorem dX1_codeAt_0 : decode cX1_codeAt 0 = .ok (.iload_n 1, 1) := by decide +kernel
theorem dX1_codeAt_1 : decode cX1_codeAt 1 = .ok (.bipush 16, 2) := by decide +kernel
theorem dX1_codeAt_3 : decode cX1_codeAt 3 = .ok (.imul, 1) := by decide +kernel
theorem dX1_codeAt_4 : decode cX1_codeAt 4 = .ok (.iload_n 2, 1) := by decide +kernel
theorem dX1_codeAt_5 : decode cX1_codeAt 5 = .ok (.iadd, 1) := by decide +kernel
theorem dX1_codeAt_6 : decode cX1_codeAt 6 = .ok (.istore_n 3, 1) := by decide +kernel
theorem dX1_codeAt_7 : decode cX1_codeAt 7 = .ok (.iload_n 3, 1) := by decide +kernel
theorem dX1_codeAt_8 : decode cX1_codeAt 8 = .ok (.ifCond .lt 21, 3) := by decide +kernel
theorem dX1_codeAt_11 : decode cX1_codeAt 11 = .ok (.iload_n 3, 1) := by decide +kernel
theorem dX1_codeAt_12 : decode cX1_codeAt 12 = .ok (.aload_n 0, 1) := by decide +kernel
theorem dX1_codeAt_13 : decode cX1_codeAt 13 = .ok (.getfield 9, 3) := by decide +kernel
theorem dX1_codeAt_16 : decode cX1_codeAt 16 = .ok (.arraylength, 1) := by decide +kernel
theorem dX1_codeAt_17 : decode cX1_codeAt 17 = .ok (.if_icmp .ge 12, 3) := by decide +kernel
theorem dX1_codeAt_20 : decode cX1_codeAt 20 = .ok (.aload_n 0, 1) := by decide +kernel
theorem dX1_codeAt_21 : decode cX1_codeAt 21 = .ok (.getfield 9, 3) := by decide +kernel
theorem dX1_codeAt_24 : decode cX1_codeAt 24 = .ok (.iload_n 3, 1) := by decide +kernel
theorem dX1_codeAt_25 : decode cX1_codeAt 25 = .ok (.caload, 1) := by decide +kernel
theorem dX1_codeAt_26 : decode cX1_codeAt 26 = .ok (.goto 5, 3) := by decide +kernel
theorem dX1_codeAt_29 : decode cX1_codeAt 29 = .ok (.bipush 59, 2) := by decide +kernel
theorem dX1_codeAt_31 : decode cX1_codeAt 31 = .ok (.ireturn, 1) := by decide +kernel
theorem dX1_begin_0 : decode cX1_begin 0 = .ok (.aload_n 0, 1) := by decide +kernel
theorem dX1_begin_1 : decode cX1_begin 1 = .ok (.getfield 19, 3) := by decide +kernel
theorem dX1_begin_4 : decode cX1_begin 4 = .ok (.ifCond .lt 32, 3) := by decide +kernel
theorem dX1_begin_7 : decode cX1_begin 7 = .ok (.aload_n 0, 1) := by decide +kernel
theorem dX1_begin_8 : decode cX1_begin 8 = .ok (.getfield 19, 3) := by decide +kernel
theorem dX1_begin_11 : decode cX1_begin 11 = .ok (.bipush 20, 2) := by decide +kernel
theorem dX1_begin_13 : decode cX1_begin 13 = .ok (.if_icmp .ge 23, 3) := by decide +kernel
theorem dX1_begin_16 : decode cX1_begin 16 = .ok (.aload_n 0, 1) := by decide +kernel
theorem dX1_begin_17 : decode cX1_begin 17 = .ok (.getfield 15, 3) := by decide +kernel
theorem dX1_begin_20 : decode cX1_begin 20 = .ok (.aload_n 0, 1) := by decide +kernel
theorem dX1_begin_21 : decode cX1_begin 21 = .ok (.getfield 19, 3) := by decide +kernel
theorem dX1_begin_24 : decode cX1_begin 24 = .ok (.iconst 0, 1) := by decide +kernel
theorem dX1_begin_25 : decode cX1_begin 25 = .ok (.iastore, 1) := by decide +kernel
theorem dX1_begin_26 : decode cX1_begin 26 = .ok (.aload_n 0, 1) := by decide +kernel
theorem dX1_begin_27 : decode cX1_begin 27 = .ok (.dup, 1) := by decide +kernel
theorem dX1_begin_28 : decode cX1_begin 28 = .ok (.getfield 19, 3) := by decide +kernel
theorem dX1_begin_31 : decode cX1_begin 31 = .ok (.iconst 1, 1) := by decide +kernel
theorem dX1_begin_32 : decode cX1_begin 32 = .ok (.iadd, 1) := by decide +kernel
theorem dX1_begin_33 : decode cX1_begin 33 = .ok (.putfield 19, 3) := by decide +kernel
theorem dX1_begin_36 : decode cX1_begin 36 = .ok (.return_, 1) := by decide +kernel
set_option maxRecDepth 20000 in
theorem ggX1_append_X1_isTaken : GoodIn wsX1_append wsX1_isTaken := goodIn_r _ [8, 1, 9, 10, 11] (by decide +kernel) (by decide +kernel)
set_option maxRecDepth 20000 in
theorem gX1_append_X1_isTaken : GoodIn wsX1_append (wsV RX1 29 RX1 yX1_isTaken wsX1_isTaken) := goodIn_app (goodIn_of _ (by decide +kernel)) ggX1_append_X1_isTaken
theorem dX1_append_0 : decode cX1_append 0 = .ok (.aload_n 0, 1) := by decide +kernel
theorem dX1_append_1 : decode cX1_append 1 = .ok (.getfield 19, 3) := by decide +kernel
theorem dX1_append_4 : decode cX1_append 4 = .ok (.iconst 1, 1) := by decide +kernel
theorem dX1_append_5 : decode cX1_append 5 = .ok (.isub, 1) := by decide +kernel
theorem dX1_append_6 : decode cX1_append 6 = .ok (.istore_n 2, 1) := by decide +kernel
theorem dX1_append_7 : decode cX1_append 7 = .ok (.aload_n 0, 1) := by decide +kernel
theorem dX1_append_8 : decode cX1_append 8 = .ok (.iload_n 2, 1) := by decide +kernel
theorem dX1_append_9 : decode cX1_append 9 = .ok (.invokevirtual 29, 3) := by decide +kernel
theorem dX1_append_12 : decode cX1_append 12 = .ok (.ifCond .eq 50, 3) := by decide +kernel
theorem dX1_append_15 : decode cX1_append 15 = .ok (.aload_n 0, 1) := by decide +kernel
theorem dX1_append_16 : decode cX1_append 16 = .ok (.getfield 15, 3) := by decide +kernel
theorem dX1_append_19 : decode cX1_append 19 = .ok (.iload_n 2, 1) := by decide +kernel
theorem dX1_append_20 : decode cX1_append 20 = .ok (.iaload, 1) := by decide +kernel
theorem dX1_append_21 : decode cX1_append 21 = .ok (.ifCond .lt 41, 3) := by decide +kernel
theorem dX1_append_24 : decode cX1_append 24 = .ok (.aload_n 0, 1) := by decide +kernel
theorem dX1_append_25 : decode cX1_append 25 = .ok (.getfield 15, 3) := by decide +kernel
theorem dX1_append_28 : decode cX1_append 28 = .ok (.iload_n 2, 1) := by decide +kernel
theorem dX1_append_29 : decode cX1_append 29 = .ok (.iaload, 1) := by decide +kernel
theorem dX1_append_30 : decode cX1_append 30 = .ok (.bipush 16, 2) := by decide +kernel
theorem dX1_append_32 : decode cX1_append 32 = .ok (.if_icmp .ge 30, 3) := by decide +kernel
theorem dX1_append_35 : decode cX1_append 35 = .ok (.aload_n 0, 1) := by decide +kernel
theorem dX1_append_36 : decode cX1_append 36 = .ok (.getfield 9, 3) := by decide +kernel
theorem dX1_append_39 : decode cX1_append 39 = .ok (.iload_n 2, 1) := by decide +kernel
theorem dX1_append_40 : decode cX1_append 40 = .ok (.bipush 16, 2) := by decide +kernel
theorem dX1_append_42 : decode cX1_append 42 = .ok (.imul, 1) := by decide +kernel
theorem dX1_append_43 : decode cX1_append 43 = .ok (.aload_n 0, 1) := by decide +kernel
theorem dX1_append_44 : decode cX1_append 44 = .ok (.getfield 15, 3) := by decide +kernel
theorem dX1_append_47 : decode cX1_append 47 = .ok (.iload_n 2, 1) := by decide +kernel
theorem dX1_append_48 : decode cX1_append 48 = .ok (.iaload, 1) := by decide +kernel
theorem dX1_append_49 : decode cX1_append 49 = .ok (.iadd, 1) := by decide +kernel
theorem dX1_append_50 : decode cX1_append 50 = .ok (.iload_n 1, 1) := by decide +kernel
theorem dX1_append_51 : decode cX1_append 51 = .ok (.castore, 1) := by decide +kernel
theorem dX1_append_52 : decode cX1_append 52 = .ok (.aload_n 0, 1) := by decide +kernel
theorem dX1_append_53 : decode cX1_append 53 = .ok (.getfield 15, 3) := by decide +kernel
theorem dX1_append_56 : decode cX1_append 56 = .ok (.iload_n 2, 1) := by decide +kernel
theorem dX1_append_57 : decode cX1_append 57 = .ok (.dup2, 1) := by decide +kernel
theorem dX1_append_58 : decode cX1_append 58 = .ok (.iaload, 1) := by decide +kernel
theorem dX1_append_59 : decode cX1_append 59 = .ok (.iconst 1, 1) := by decide +kernel
theorem dX1_append_60 : decode cX1_append 60 = .ok (.iadd, 1) := by decide +kernel
theorem dX1_append_61 : decode cX1_append 61 = .ok (.iastore, 1) := by decide +kernel
theorem dX1_append_62 : decode cX1_append 62 = .ok (.return_, 1) := by decide +kernel
set_option maxRecDepth 20000 in
theorem ggX1_takeOut_X1_isTaken : GoodIn wsX1_takeOut wsX1_isTaken := goodIn_r _ [6, 1, 13, 14, 15] (by decide +kernel) (by decide +kernel)
set_option maxRecDepth 20000 in
theorem gX1_takeOut_X1_isTaken : GoodIn wsX1_takeOut (wsV RX1 29 RX1 yX1_isTaken wsX1_isTaken) := goodIn_app (goodIn_of _ (by decide +kernel)) ggX1_takeOut_X1_isTaken
set_option maxRecDepth 20000 in
theorem ggX1_takeOut_X1_exchange : GoodIn wsX1_takeOut wsX1_exchange := goodIn_r _ [10, 11, 12, 2, 3, 4, 5, 6, 1, 13, 14, 15] (by decide +kernel) (by decide +kernel)
set_option maxRecDepth 20000 in
theorem gX1_takeOut_X1_exchange : GoodIn wsX1_takeOut (wsV RX1 37 RX1 yX1_exchange wsX1_exchange) := goodIn_app (goodIn_of _ (by decide +kernel)) ggX1_takeOut_X1_exchange
theorem dX1_takeOut_0 : decode cX1_takeOut 0 = .ok (.aload_n 0, 1) := by decide +kernel
theorem dX1_takeOut_1 : decode cX1_takeOut 1 = .ok (.iload_n 1, 1) := by decide +kernel
theorem dX1_takeOut_2 : decode cX1_takeOut 2 = .ok (.invokevirtual 29, 3) := by decide +kernel
theorem dX1_takeOut_5 : decode cX1_takeOut 5 = .ok (.ifCond .ne 4, 3) := by decide +kernel
theorem dX1_takeOut_8 : decode cX1_takeOut 8 = .ok (.return_, 1) := by decide +kernel
theorem dX1_takeOut_9 : decode cX1_takeOut 9 = .ok (.iload_n 1, 1) := by decide +kernel
theorem dX1_takeOut_10 : decode cX1_takeOut 10 = .ok (.iconst 1, 1) := by decide +kernel
theorem dX1_takeOut_11 : decode cX1_takeOut 11 = .ok (.iadd, 1) := by decide +kernel
theorem dX1_takeOut_12 : decode cX1_takeOut 12 = .ok (.istore_n 2, 1) := by decide +kernel
theorem dX1_takeOut_13 : decode cX1_takeOut 13 = .ok (.iload_n 2, 1) := by decide +kernel
theorem dX1_takeOut_14 : decode cX1_takeOut 14 = .ok (.aload_n 0, 1) := by decide +kernel
theorem dX1_takeOut_15 : decode cX1_takeOut 15 = .ok (.getfield 19, 3) := by decide +kernel
theorem dX1_takeOut_18 : decode cX1_takeOut 18 = .ok (.if_icmp .ge 23, 3) := by decide +kernel
theorem dX1_takeOut_21 : decode cX1_takeOut 21 = .ok (.iload_n 2, 1) := by decide +kernel
theorem dX1_takeOut_22 : decode cX1_takeOut 22 = .ok (.bipush 20, 2) := by decide +kernel
theorem dX1_takeOut_24 : decode cX1_takeOut 24 = .ok (.if_icmp .ge 17, 3) := by decide +kernel
theorem dX1_takeOut_27 : decode cX1_takeOut 27 = .ok (.aload_n 0, 1) := by decide +kernel
theorem dX1_takeOut_28 : decode cX1_takeOut 28 = .ok (.iload_n 2, 1) := by decide +kernel
theorem dX1_takeOut_29 : decode cX1_takeOut 29 = .ok (.iconst 1, 1) := by decide +kernel
theorem dX1_takeOut_30 : decode cX1_takeOut 30 = .ok (.isub, 1) := by decide +kernel
theorem dX1_takeOut_31 : decode cX1_takeOut 31 = .ok (.iload_n 2, 1) := by decide +kernel
theorem dX1_takeOut_32 : decode cX1_takeOut 32 = .ok (.invokevirtual 37, 3) := by decide +kernel
theorem dX1_takeOut_35 : decode cX1_takeOut 35 = .ok (.iinc 2 1, 3) := by decide +kernel
theorem dX1_takeOut_38 : decode cX1_takeOut 38 = .ok (.goto (-25), 3) := by decide +kernel
theorem dX1_takeOut_41 : decode cX1_takeOut 41 = .ok (.aload_n 0, 1) := by decide +kernel
theorem dX1_takeOut_42 : decode cX1_takeOut 42 = .ok (.dup, 1) := by decide +kernel
theorem dX1_takeOut_43 : decode cX1_takeOut 43 = .ok (.getfield 19, 3) := by decide +kernel
theorem dX1_takeOut_46 : decode cX1_takeOut 46 = .ok (.iconst 1, 1) := by decide +kernel
theorem dX1_takeOut_47 : decode cX1_takeOut 47 = .ok (.isub, 1) := by decide +kernel
theorem dX1_takeOut_48 : decode cX1_takeOut 48 = .ok (.putfield 19, 3) := by decide +kernel
theorem dX1_takeOut_51 : decode cX1_takeOut 51 = .ok (.return_, 1) := by decide +kernel
set_option maxRecDepth 20000 in
theorem ggX1_exchange_X1_isTaken : GoodIn wsX1_exchange wsX1_isTaken := goodIn_r _ [7, 8, 9, 10, 11] (by decide +kernel) (by decide +kernel)
set_option maxRecDepth 20000 in
theorem gX1_exchange_X1_isTaken : GoodIn wsX1_exchange (wsV RX1 29 RX1 yX1_isTaken wsX1_isTaken) := goodIn_app (goodIn_of _ (by decide +kernel)) ggX1_exchange_X1_isTaken
theorem dX1_exchange_0 : decode cX1_exchange 0 = .ok (.aload_n 0, 1) := by decide +kernel
theorem dX1_exchange_1 : decode cX1_exchange 1 = .ok (.iload_n 1, 1) := by decide +kernel
theorem dX1_exchange_2 : decode cX1_exchange 2 = .ok (.invokevirtual 29, 3) := by decide +kernel
theorem dX1_exchange_5 : decode cX1_exchange 5 = .ok (.ifCond .eq 11, 3) := by decide +kernel
theorem dX1_exchange_8 : decode cX1_exchange 8 = .ok (.aload_n 0, 1) := by decide +kernel
theorem dX1_exchange_9 : decode cX1_exchange 9 = .ok (.iload_n 2, 1) := by decide +kernel
theorem dX1_exchange_10 : decode cX1_exchange 10 = .ok (.invokevirtual 29, 3) := by decide +kernel
theorem dX1_exchange_13 : decode cX1_exchange 13 = .ok (.ifCond .ne 4, 3) := by decide +kernel
theorem dX1_exchange_16 : decode cX1_exchange 16 = .ok (.return_, 1) := by decide +kernel
theorem dX1_exchange_17 : decode cX1_exchange 17 = .ok (.iconst 0, 1) := by decide +kernel
theorem dX1_exchange_18 : decode cX1_exchange 18 = .ok (.istore_n 3, 1) := by decide +kernel
theorem dX1_exchange_19 : decode cX1_exchange 19 = .ok (.iload_n 3, 1) := by decide +kernel
theorem dX1_exchange_20 : decode cX1_exchange 20 = .ok (.bipush 16, 2) := by decide +kernel
theorem dX1_exchange_22 : decode cX1_exchange 22 = .ok (.if_icmp .ge 57, 3) := by decide +kernel
theorem dX1_exchange_25 : decode cX1_exchange 25 = .ok (.aload_n 0, 1) := by decide +kernel
theorem dX1_exchange_26 : decode cX1_exchange 26 = .ok (.getfield 9, 3) := by decide +kernel
theorem dX1_exchange_29 : decode cX1_exchange 29 = .ok (.iload_n 1, 1) := by decide +kernel
theorem dX1_exchange_30 : decode cX1_exchange 30 = .ok (.bipush 16, 2) := by decide +kernel
theorem dX1_exchange_32 : decode cX1_exchange 32 = .ok (.imul, 1) := by decide +kernel
theorem dX1_exchange_33 : decode cX1_exchange 33 = .ok (.iload_n 3, 1) := by decide +kernel
theorem dX1_exchange_34 : decode cX1_exchange 34 = .ok (.iadd, 1) := by decide +kernel
theorem dX1_exchange_35 : decode cX1_exchange 35 = .ok (.caload, 1) := by decide +kernel
theorem dX1_exchange_36 : decode cX1_exchange 36 = .ok (.istore 4, 2) := by decide +kernel
theorem dX1_exchange_38 : decode cX1_exchange 38 = .ok (.aload_n 0, 1) := by decide +kernel
theorem dX1_exchange_39 : decode cX1_exchange 39 = .ok (.getfield 9, 3) := by decide +kernel
theorem dX1_exchange_42 : decode cX1_exchange 42 = .ok (.iload_n 1, 1) := by decide +kernel
theorem dX1_exchange_43 : decode cX1_exchange 43 = .ok (.bipush 16, 2) := by decide +kernel
theorem dX1_exchange_45 : decode cX1_exchange 45 = .ok (.imul, 1) := by decide +kernel
theorem dX1_exchange_46 : decode cX1_exchange 46 = .ok (.iload_n 3, 1) := by decide +kernel
theorem dX1_exchange_47 : decode cX1_exchange 47 = .ok (.iadd, 1) := by decide +kernel
theorem dX1_exchange_48 : decode cX1_exchange 48 = .ok (.aload_n 0, 1) := by decide +kernel
theorem dX1_exchange_49 : decode cX1_exchange 49 = .ok (.getfield 9, 3) := by decide +kernel
theorem dX1_exchange_52 : decode cX1_exchange 52 = .ok (.iload_n 2, 1) := by decide +kernel
theorem dX1_exchange_53 : decode cX1_exchange 53 = .ok (.bipush 16, 2) := by decide +kernel
theorem dX1_exchange_55 : decode cX1_exchange 55 = .ok (.imul, 1) := by decide +kernel
theorem dX1_exchange_56 : decode cX1_exchange 56 = .ok (.iload_n 3, 1) := by decide +kernel
theorem dX1_exchange_57 : decode cX1_exchange 57 = .ok (.iadd, 1) := by decide +kernel
theorem dX1_exchange_58 : decode cX1_exchange 58 = .ok (.caload, 1) := by decide +kernel
theorem dX1_exchange_59 : decode cX1_exchange 59 = .ok (.castore, 1) := by decide +kernel
theorem dX1_exchange_60 : decode cX1_exchange 60 = .ok (.aload_n 0, 1) := by decide +kernel
theorem dX1_exchange_61 : decode cX1_exchange 61 = .ok (.getfield 9, 3) := by decide +kernel
theorem dX1_exchange_64 : decode cX1_exchange 64 = .ok (.iload_n 2, 1) := by decide +kernel
theorem dX1_exchange_65 : decode cX1_exchange 65 = .ok (.bipush 16, 2) := by decide +kernel
theorem dX1_exchange_67 : decode cX1_exchange 67 = .ok (.imul, 1) := by decide +kernel
theorem dX1_exchange_68 : decode cX1_exchange 68 = .ok (.iload_n 3, 1) := by decide +kernel
theorem dX1_exchange_69 : decode cX1_exchange 69 = .ok (.iadd, 1) := by decide +kernel
theorem dX1_exchange_70 : decode cX1_exchange 70 = .ok (.iload 4, 2) := by decide +kernel
theorem dX1_exchange_72 : decode cX1_exchange 72 = .ok (.castore, 1) := by decide +kernel
theorem dX1_exchange_73 : decode cX1_exchange 73 = .ok (.iinc 3 1, 3) := by decide +kernel
theorem dX1_exchange_76 : decode cX1_exchange 76 = .ok (.goto (-57), 3) := by decide +kernel
theorem dX1_exchange_79 : decode cX1_exchange 79 = .ok (.aload_n 0, 1) := by decide +kernel
theorem dX1_exchange_80 : decode cX1_exchange 80 = .ok (.getfield 15, 3) := by decide +kernel
theorem dX1_exchange_83 : decode cX1_exchange 83 = .ok (.iload_n 1, 1) := by decide +kernel
theorem dX1_exchange_84 : decode cX1_exchange 84 = .ok (.iaload, 1) := by decide +kernel
theorem dX1_exchange_85 : decode cX1_exchange 85 = .ok (.istore_n 3, 1) := by decide +kernel
theorem dX1_exchange_86 : decode cX1_exchange 86 = .ok (.aload_n 0, 1) := by decide +kernel
theorem dX1_exchange_87 : decode cX1_exchange 87 = .ok (.getfield 15, 3) := by decide +kernel
theorem dX1_exchange_90 : decode cX1_exchange 90 = .ok (.iload_n 1, 1) := by decide +kernel
theorem dX1_exchange_91 : decode cX1_exchange 91 = .ok (.aload_n 0, 1) := by decide +kernel
theorem dX1_exchange_92 : decode cX1_exchange 92 = .ok (.getfield 15, 3) := by decide +kernel
theorem dX1_exchange_95 : decode cX1_exchange 95 = .ok (.iload_n 2, 1) := by decide +kernel
theorem dX1_exchange_96 : decode cX1_exchange 96 = .ok (.iaload, 1) := by decide +kernel
theorem dX1_exchange_97 : decode cX1_exchange 97 = .ok (.iastore, 1) := by decide +kernel
theorem dX1_exchange_98 : decode cX1_exchange 98 = .ok (.aload_n 0, 1) := by decide +kernel
theorem dX1_exchange_99 : decode cX1_exchange 99 = .ok (.getfield 15, 3) := by decide +kernel
theorem dX1_exchange_102 : decode cX1_exchange 102 = .ok (.iload_n 2, 1) := by decide +kernel
theorem dX1_exchange_103 : decode cX1_exchange 103 = .ok (.iload_n 3, 1) := by decide +kernel
theorem dX1_exchange_104 : decode cX1_exchange 104 = .ok (.iastore, 1) := by decide +kernel
theorem dX1_exchange_105 : decode cX1_exchange 105 = .ok (.return_, 1) := by decide +kernel
theorem dX2_init_0 : decode cX2_init 0 = .ok (.aload_n 0, 1) := by decide +kernel
theorem dX2_init_1 : decode cX2_init 1 = .ok (.invokespecial 3, 3) := by decide +kernel
theorem dX2_init_4 : decode cX2_init 4 = .ok (.aload_n 0, 1) := by decide +kernel
theorem dX2_init_5 : decode cX2_init 5 = .ok (.bipush 16, 2) := by decide +kernel
theorem dX2_init_7 : decode cX2_init 7 = .ok (.newarray .char, 2) := by decide +kernel
theorem dX2_init_9 : decode cX2_init 9 = .ok (.putfield 9, 3) := by decide +kernel
theorem dX2_init_12 : decode cX2_init 12 = .ok (.aload_n 0, 1) := by decide +kernel
theorem dX2_init_13 : decode cX2_init 13 = .ok (.bipush 16, 2) := by decide +kernel
theorem dX2_init_15 : decode cX2_init 15 = .ok (.newarray .char, 2) := by decide +kernel
theorem dX2_init_17 : decode cX2_init 17 = .ok (.putfield 15, 3) := by decide +kernel
theorem dX2_init_20 : decode cX2_init 20 = .ok (.aload_n 0, 1) := by decide +kernel
theorem dX2_init_21 : decode cX2_init 21 = .ok (.bipush 16, 2) := by decide +kernel
theorem dX2_init_23 : decode cX2_init 23 = .ok (.newarray .int, 2) := by decide +kernel
theorem dX2_init_25 : decode cX2_init 25 = .ok (.putfield 18, 3) := by decide +kernel
theorem dX2_init_28 : decode cX2_init 28 = .ok (.aload_n 0, 1) := by decide +kernel
theorem dX2_init_29 : decode cX2_init 29 = .ok (.iconst 0, 1) := by decide +kernel
theorem dX2_init_30 : decode cX2_init 30 = .ok (.putfield 22, 3) := by decide +kernel
theorem dX2_init_33 : decode cX2_init 33 = .ok (.return_, 1) := by decide +kernel
theorem dX2_copyFrom_0 : decode cX2_copyFrom 0 = .ok (.aload_n 1, 1) := by decide +kernel
theorem dX2_copyFrom_1 : decode cX2_copyFrom 1 = .ok (.getfield 9, 3) := by decide +kernel
theorem dX2_copyFrom_4 : decode cX2_copyFrom 4 = .ok (.iconst 0, 1) := by decide +kernel
theorem dX2_copyFrom_5 : decode cX2_copyFrom 5 = .ok (.aload_n 0, 1) := by decide +kernel
theorem dX2_copyFrom_6 : decode cX2_copyFrom 6 = .ok (.getfield 9, 3) := by decide +kernel
theorem dX2_copyFrom_9 : decode cX2_copyFrom 9 = .ok (.iconst 0, 1) := by decide +kernel
theorem dX2_copyFrom_10 : decode cX2_copyFrom 10 = .ok (.aload_n 0, 1) := by decide +kernel
theorem dX2_copyFrom_11 : decode cX2_copyFrom 11 = .ok (.getfield 9, 3) := by decide +kernel
theorem dX2_copyFrom_14 : decode cX2_copyFrom 14 = .ok (.arraylength, 1) := by decide +kernel
theorem dX2_copyFrom_15 : decode cX2_copyFrom 15 = .ok (.invokestatic 26, 3) := by decide +kernel
theorem dX2_copyFrom_18 : decode cX2_copyFrom 18 = .ok (.aload_n 1, 1) := by decide +kernel
theorem dX2_copyFrom_19 : decode cX2_copyFrom 19 = .ok (.getfield 15, 3) := by decide +kernel
theorem dX2_copyFrom_22 : decode cX2_copyFrom 22 = .ok (.iconst 0, 1) := by decide +kernel
theorem dX2_copyFrom_23 : decode cX2_copyFrom 23 = .ok (.aload_n 0, 1) := by decide +kernel
theorem dX2_copyFrom_24 : decode cX2_copyFrom 24 = .ok (.getfield 15, 3) := by decide +kernel
theorem dX2_copyFrom_27 : decode cX2_copyFrom 27 = .ok (.iconst 0, 1) := by decide +kernel
theorem dX2_copyFrom_28 : decode cX2_copyFrom 28 = .ok (.aload_n 0, 1) := by decide +kernel
theorem dX2_copyFrom_29 : decode cX2_copyFrom 29 = .ok (.getfield 15, 3) := by decide +kernel
theorem dX2_copyFrom_32 : decode cX2_copyFrom 32 = .ok (.arraylength, 1) := by decide +kernel
theorem dX2_copyFrom_33 : decode cX2_copyFrom 33 = .ok (.invokestatic 26, 3) := by decide +kernel
theorem dX2_copyFrom_36 : decode cX2_copyFrom 36 = .ok (.aload_n 1, 1) := by decide +kernel
theorem dX2_copyFrom_37 : decode cX2_copyFrom 37 = .ok (.getfield 18, 3) := by decide +kernel
theorem dX2_copyFrom_40 : decode cX2_copyFrom 40 = .ok (.iconst 0, 1) := by decide +kernel
theorem dX2_copyFrom_41 : decode cX2_copyFrom 41 = .ok (.aload_n 0, 1) := by decide +kernel
theorem dX2_copyFrom_42 : decode cX2_copyFrom 42 = .ok (.getfield 18, 3) := by decide +kernel
theorem dX2_copyFrom_45 : decode cX2_copyFrom 45 = .ok (.iconst 0, 1) := by decide +kernel
theorem dX2_copyFrom_46 : decode cX2_copyFrom 46 = .ok (.aload_n 0, 1) := by decide +kernel
theorem dX2_copyFrom_47 : decode cX2_copyFrom 47 = .ok (.getfield 18, 3) := by decide +kernel
theorem dX2_copyFrom_50 : decode cX2_copyFrom 50 = .ok (.arraylength, 1) := by decide +kernel
theorem dX2_copyFrom_51 : decode cX2_copyFrom 51 = .ok (.invokestatic 26, 3) := by decide +kernel
theorem dX2_copyFrom_54 : decode cX2_copyFrom 54 = .ok (.aload_n 0, 1) := by decide +kernel
theorem dX2_copyFrom_55 : decode cX2_copyFrom 55 = .ok (.aload_n 1, 1) := by decide +kernel
theorem dX2_copyFrom_56 : decode cX2_copyFrom 56 = .ok (.getfield 22, 3) := by decide +kernel
theorem dX2_copyFrom_59 : decode cX2_copyFrom 59 = .ok (.putfield 22, 3) := by decide +kernel
theorem dX2_copyFrom_62 : decode cX2_copyFrom 62 = .ok (.return_, 1) := by decide +kernel
theorem dX2_isFull_0 : decode cX2_isFull 0 = .ok (.aload_n 0, 1) := by decide +kernel
theorem dX2_isFull_1 : decode cX2_isFull 1 = .ok (.getfield 22, 3) := by decide +kernel
theorem dX2_isFull_4 : decode cX2_isFull 4 = .ok (.bipush 16, 2) := by decide +kernel
theorem dX2_isFull_6 : decode cX2_isFull 6 = .ok (.if_icmp .lt 7, 3) := by decide +kernel
theorem dX2_isFull_9 : decode cX2_isFull 9 = .ok (.iconst 1, 1) := by decide +kernel
theorem dX2_isFull_10 : decode cX2_isFull 10 = .ok (.goto 4, 3) := by decide +kernel
theorem dX2_isFull_13 : decode cX2_isFull 13 = .ok (.iconst 0, 1) := by decide +kernel
theorem dX2_isFull_14 : decode cX2_isFull 14 = .ok (.ireturn, 1) := by decide +kernel
theorem dX2_isPlace_0 : decode cX2_isPlace 0 = .ok (.iload_n 1, 1) := by decide +kernel
theorem dX2_isPlace_1 : decode cX2_isPlace 1 = .ok (.ifCond .lt 21, 3) := by decide +kernel
theorem dX2_isPlace_4 : decode cX2_isPlace 4 = .ok (.iload_n 1, 1) := by decide +kernel
theorem dX2_isPlace_5 : decode cX2_isPlace 5 = .ok (.aload_n 0, 1) := by decide +kernel
theorem dX2_isPlace_6 : decode cX2_isPlace 6 = .ok (.getfield 22, 3) := by decide +kernel
theorem dX2_isPlace_9 : decode cX2_isPlace 9 = .ok (.if_icmp .ge 13, 3) := by decide +kernel
theorem dX2_isPlace_12 : decode cX2_isPlace 12 = .ok (.iload_n 1, 1) := by decide +kernel
theorem dX2_isPlace_13 : decode cX2_isPlace 13 = .ok (.bipush 16, 2) := by decide +kernel
theorem dX2_isPlace_15 : decode cX2_isPlace 15 = .ok (.if_icmp .ge 7, 3) := by decide +kernel
theorem dX2_isPlace_18 : decode cX2_isPlace 18 = .ok (.iconst 1, 1) := by decide +kernel
theorem dX2_isPlace_19 : decode cX2_isPlace 19 = .ok (.goto 4, 3) := by decide +kernel
theorem dX2_isPlace_22 : decode cX2_isPlace 22 = .ok (.iconst 0, 1) := by decide +kernel
theorem dX2_isPlace_23 : decode cX2_isPlace 23 = .ok (.ireturn, 1) := by decide +kernel
set_option maxRecDepth 20000 in
theorem ggX2_leftAt_X2_isPlace : GoodIn wsX2_leftAt wsX2_isPlace := goodIn_r _ [6, 7, 8, 9, 10, 11] (by decide +kernel) (by decide +kernel)
set_option maxRecDepth 20000 in
theorem gX2_leftAt_X2_isPlace : GoodIn wsX2_leftAt (wsV RX2 32 RX2 yX2_isPlace wsX2_isPlace) := goodIn_app (goodIn_of _ (by decide +kernel)) ggX2_leftAt_X2_isPlace
theorem dX2_leftAt_0 : decode cX2_leftAt 0 = .ok (.aload_n 0, 1) := by decide +kernel
theorem dX2_leftAt_1 : decode cX2_leftAt 1 = .ok (.iload_n 1, 1) := by decide +kernel
theorem dX2_leftAt_2 : decode cX2_leftAt 2 = .ok (.invokevirtual 32, 3) := by decide +kernel
theorem dX2_leftAt_5 : decode cX2_leftAt 5 = .ok (.ifCond .eq 12, 3) := by decide +kernel
theorem dX2_leftAt_8 : decode cX2_leftAt 8 = .ok (.aload_n 0, 1) := by decide +kernel
theorem dX2_leftAt_9 : decode cX2_leftAt 9 = .ok (.getfield 9, 3) := by decide +kernel
theorem dX2_leftAt_12 : decode cX2_leftAt 12 = .ok (.iload_n 1, 1) := by decide +kernel
theorem dX2_leftAt_13 : decode cX2_leftAt 13 = .ok (.caload, 1) := by decide +kernel
theorem dX2_leftAt_14 : decode cX2_leftAt 14 = .ok (.goto 5, 3) := by decide +kernel
theorem dX2_leftAt_17 : decode cX2_leftAt 17 = .ok (.bipush 59, 2) := by decide +kernel
theorem dX2_leftAt_19 : decode cX2_leftAt 19 = .ok (.ireturn, 1) := by decide +kernel
set_option maxRecDepth 20000 in
theorem ggX2_rightAt_X2_isPlace : GoodIn wsX2_rightAt wsX2_isPlace := goodIn_r _ [6, 7, 8, 9, 10, 11] (by decide +kernel) (by decide +kernel)
set_option maxRecDepth 20000 in
theorem gX2_rightAt_X2_isPlace : GoodIn wsX2_rightAt (wsV RX2 32 RX2 yX2_isPlace wsX2_isPlace) := goodIn_app (goodIn_of _ (by decide +kernel)) ggX2_rightAt_X2_isPlace
theorem dX2_rightAt_0 : decode cX2_rightAt 0 = .ok (.aload_n 0, 1) := by decide +kernel
theorem dX2_rightAt_1 : decode cX2_rightAt 1 = .ok (.iload_n 1, 1) := by decide +kernel
theorem dX2_rightAt_2 : decode cX2_rightAt 2 = .ok (.invokevirtual 32, 3) := by decide +kernel
theorem dX2_rightAt_5 : decode cX2_rightAt 5 = .ok (.ifCond .eq 12, 3) := by decide +kernel
theorem dX2_rightAt_8 : decode cX2_rightAt 8 = .ok (.aload_n 0, 1) := by decide +kernel
theorem dX2_rightAt_9 : decode cX2_rightAt 9 = .ok (.getfield 15, 3) := by decide +kernel
theorem dX2_rightAt_12 : decode cX2_rightAt 12 = .ok (.iload_n 1, 1) := by decide +kernel
theorem dX2_rightAt_13 : decode cX2_rightAt 13 = .ok (.caload, 1) := by decide +kernel
theorem dX2_rightAt_14 : decode cX2_rightAt 14 = .ok (.goto 5, 3) := by decide +kernel
theorem dX2_rightAt_17 : decode cX2_rightAt 17 = .ok (.bipush 59, 2) := by decide +kernel
theorem dX2_rightAt_19 : decode cX2_rightAt 19 = .ok (.ireturn, 1) := by decide +kernel
theorem dX2_adjustmentAt_0 : decode cX2_adjustmentAt 0 = .ok (.iload_n 1, 1) := by decide +kernel
theorem dX2_adjustmentAt_1 : decode cX2_adjustmentAt 1 = .ok (.ifCond .lt 26, 3) := by decide +kernel
theorem dX2_adjustmentAt_4 : decode cX2_adjustmentAt 4 = .ok (.iload_n 1, 1) := by decide +kernel
theorem dX2_adjustmentAt_5 : decode cX2_adjustmentAt 5 = .ok (.aload_n 0, 1) := by decide +kernel
theorem dX2_adjustmentAt_6 : decode cX2_adjustmentAt 6 = .ok (.getfield 22, 3) := by decide +kernel
theorem dX2_adjustmentAt_9 : decode cX2_adjustmentAt 9 = .ok (.if_icmp .ge 18, 3) := by decide +kernel
theorem dX2_adjustmentAt_12 : decode cX2_adjustmentAt 12 = .ok (.iload_n 1, 1) := by decide +kernel
theorem dX2_adjustmentAt_13 : decode cX2_adjustmentAt 13 = .ok (.bipush 16, 2) := by decide +kernel
theorem dX2_adjustmentAt_15 : decode cX2_adjustmentAt 15 = .ok (.if_icmp .ge 12, 3) := by decide +kernel
theorem dX2_adjustmentAt_18 : decode cX2_adjustmentAt 18 = .ok (.aload_n 0, 1) := by decide +kernel
theorem dX2_adjustmentAt_19 : decode cX2_adjustmentAt 19 = .ok (.getfield 18, 3) := by decide +kernel
theorem dX2_adjustmentAt_22 : decode cX2_adjustmentAt 22 = .ok (.iload_n 1, 1) := by decide +kernel
theorem dX2_adjustmentAt_23 : decode cX2_adjustmentAt 23 = .ok (.iaload, 1) := by decide +kernel
theorem dX2_adjustmentAt_24 : decode cX2_adjustmentAt 24 = .ok (.goto 4, 3) := by decide +kernel
theorem dX2_adjustmentAt_27 : decode cX2_adjustmentAt 27 = .ok (.iconst 0, 1) := by decide +kernel
theorem dX2_adjustmentAt_28 : decode cX2_adjustmentAt 28 = .ok (.ireturn, 1) := by decide +kernel
theorem dX2_placeOf_0 : decode cX2_placeOf 0 = .ok (.iconst 0, 1) := by decide +kernel
theorem dX2_placeOf_1 : decode cX2_placeOf 1 = .ok (.istore_n 3, 1) := by decide +kernel
theorem dX2_placeOf_2 : decode cX2_placeOf 2 = .ok (.iload_n 3, 1) := by decide +kernel
theorem dX2_placeOf_3 : decode cX2_placeOf 3 = .ok (.aload_n 0, 1) := by decide +kernel
theorem dX2_placeOf_4 : decode cX2_placeOf 4 = .ok (.getfield 22, 3) := by decide +kernel
theorem dX2_placeOf_7 : decode cX2_placeOf 7 = .ok (.if_icmp .ge 37, 3) := by decide +kernel
theorem dX2_placeOf_10 : decode cX2_placeOf 10 = .ok (.iload_n 3, 1) := by decide +kernel
theorem dX2_placeOf_11 : decode cX2_placeOf 11 = .ok (.bipush 16, 2) := by decide +kernel
theorem dX2_placeOf_13 : decode cX2_placeOf 13 = .ok (.if_icmp .ge 31, 3) := by decide +kernel
theorem dX2_placeOf_16 : decode cX2_placeOf 16 = .ok (.aload_n 0, 1) := by decide +kernel
theorem dX2_placeOf_17 : decode cX2_placeOf 17 = .ok (.getfield 9, 3) := by decide +kernel
theorem dX2_placeOf_20 : decode cX2_placeOf 20 = .ok (.iload_n 3, 1) := by decide +kernel
theorem dX2_placeOf_21 : decode cX2_placeOf 21 = .ok (.caload, 1) := by decide +kernel
theorem dX2_placeOf_22 : decode cX2_placeOf 22 = .ok (.iload_n 1, 1) := by decide +kernel
theorem dX2_placeOf_23 : decode cX2_placeOf 23 = .ok (.if_icmp .ne 15, 3) := by decide +kernel
theorem dX2_placeOf_26 : decode cX2_placeOf 26 = .ok (.aload_n 0, 1) := by decide +kernel
theorem dX2_placeOf_27 : decode cX2_placeOf 27 = .ok (.getfield 15, 3) := by decide +kernel
theorem dX2_placeOf_30 : decode cX2_placeOf 30 = .ok (.iload_n 3, 1) := by decide +kernel
theorem dX2_placeOf_31 : decode cX2_placeOf 31 = .ok (.caload, 1) := by decide +kernel
theorem dX2_placeOf_32 : decode cX2_placeOf 32 = .ok (.iload_n 2, 1) := by decide +kernel
theorem dX2_placeOf_33 : decode cX2_placeOf 33 = .ok (.if_icmp .ne 5, 3) := by decide +kernel
theorem dX2_placeOf_36 : decode cX2_placeOf 36 = .ok (.iload_n 3, 1) := by decide +kernel
theorem dX2_placeOf_37 : decode cX2_placeOf 37 = .ok (.ireturn, 1) := by decide +kernel
theorem dX2_placeOf_38 : decode cX2_placeOf 38 = .ok (.iinc 3 1, 3) := by decide +kernel
theorem dX2_placeOf_41 : decode cX2_placeOf 41 = .ok (.goto (-39), 3) := by decide +kernel
theorem dX2_placeOf_44 : decode cX2_placeOf 44 = .ok (.aload_n 0, 1) := by decide +kernel
theorem dX2_placeOf_45 : decode cX2_placeOf 45 = .ok (.getfield 22, 3) := by decide +kernel
theorem dX2_placeOf_48 : decode cX2_placeOf 48 = .ok (.ireturn, 1) := by decide +kernel
set_option maxRecDepth 20000 in
theorem ggX2_put_X2_placeOf : GoodIn wsX2_put wsX2_placeOf := goodIn_r _ [6, 7, 8, 9, 22, 23, 24, 25] (by decide +kernel) (by decide +kernel)
set_option maxRecDepth 20000 in
theorem gX2_put_X2_placeOf : GoodIn wsX2_put (wsV RX2 36 RX2 yX2_placeOf wsX2_placeOf) := goodIn_app (goodIn_of _ (by decide +kernel)) ggX2_put_X2_placeOf
set_option maxRecDepth 20000 in
theorem ggX2_put_X2_isPlace : GoodIn wsX2_put wsX2_isPlace := goodIn_r _ [13, 7, 22, 23, 24, 25] (by decide +kernel) (by decide +kernel)
set_option maxRecDepth 20000 in
theorem gX2_put_X2_isPlace : GoodIn wsX2_put (wsV RX2 32 RX2 yX2_isPlace wsX2_isPlace) := goodIn_app (goodIn_of _ (by decide +kernel)) ggX2_put_X2_isPlace
set_option maxRecDepth 20000 in
theorem ggX2_put_X2_takeOut : GoodIn wsX2_put wsX2_takeOut := goodIn_r _ [17, 7, 8, 9, 1, 22, 23, 24, 25] (by decide +kernel) (by decide +kernel)
set_option maxRecDepth 20000 in
theorem gX2_put_X2_takeOut : GoodIn wsX2_put (wsV RX2 40 RX2 yX2_takeOut wsX2_takeOut) := goodIn_app (goodIn_of _ (by decide +kernel)) ggX2_put_X2_takeOut
set_option maxRecDepth 20000 in
theorem ggX2_put_X2_append : GoodIn wsX2_put wsX2_append := goodIn_r _ [21, 7, 8, 9, 1, 22, 23, 24, 25] (by decide +kernel) (by decide +kernel)
set_option maxRecDepth 20000 in
theorem gX2_put_X2_append : GoodIn wsX2_put (wsV RX2 44 RX2 yX2_append wsX2_append) := goodIn_app (goodIn_of _ (by decide +kernel)) ggX2_put_X2_append
theorem dX2_put_0 : decode cX2_put 0 = .ok (.aload_n 0, 1) := by decide +kernel
theorem dX2_put_1 : decode cX2_put 1 = .ok (.iload_n 1, 1) := by decide +kernel
theorem dX2_put_2 : decode cX2_put 2 = .ok (.iload_n 2, 1) := by decide +kernel
theorem dX2_put_3 : decode cX2_put 3 = .ok (.invokevirtual 36, 3) := by decide +kernel
theorem dX2_put_6 : decode cX2_put 6 = .ok (.istore 4, 2) := by decide +kernel
theorem dX2_put_8 : decode cX2_put 8 = .ok (.aload_n 0, 1) := by decide +kernel
theorem dX2_put_9 : decode cX2_put 9 = .ok (.iload 4, 2) := by decide +kernel
theorem dX2_put_11 : decode cX2_put 11 = .ok (.invokevirtual 32, 3) := by decide +kernel
theorem dX2_put_14 : decode cX2_put 14 = .ok (.ifCond .eq 18, 3) := by decide +kernel
theorem dX2_put_17 : decode cX2_put 17 = .ok (.iload_n 3, 1) := by decide +kernel
theorem dX2_put_18 : decode cX2_put 18 = .ok (.ifCond .eq 14, 3) := by decide +kernel
theorem dX2_put_21 : decode cX2_put 21 = .ok (.aload_n 0, 1) := by decide +kernel
theorem dX2_put_22 : decode cX2_put 22 = .ok (.getfield 18, 3) := by decide +kernel
theorem dX2_put_25 : decode cX2_put 25 = .ok (.iload 4, 2) := by decide +kernel
theorem dX2_put_27 : decode cX2_put 27 = .ok (.iload_n 3, 1) := by decide +kernel
theorem dX2_put_28 : decode cX2_put 28 = .ok (.iastore, 1) := by decide +kernel
theorem dX2_put_29 : decode cX2_put 29 = .ok (.goto 32, 3) := by decide +kernel
theorem dX2_put_32 : decode cX2_put 32 = .ok (.aload_n 0, 1) := by decide +kernel
theorem dX2_put_33 : decode cX2_put 33 = .ok (.iload 4, 2) := by decide +kernel
theorem dX2_put_35 : decode cX2_put 35 = .ok (.invokevirtual 32, 3) := by decide +kernel
theorem dX2_put_38 : decode cX2_put 38 = .ok (.ifCond .eq 12, 3) := by decide +kernel
theorem dX2_put_41 : decode cX2_put 41 = .ok (.aload_n 0, 1) := by decide +kernel
theorem dX2_put_42 : decode cX2_put 42 = .ok (.iload 4, 2) := by decide +kernel
theorem dX2_put_44 : decode cX2_put 44 = .ok (.invokevirtual 40, 3) := by decide +kernel
theorem dX2_put_47 : decode cX2_put 47 = .ok (.goto 14, 3) := by decide +kernel
theorem dX2_put_50 : decode cX2_put 50 = .ok (.iload_n 3, 1) := by decide +kernel
theorem dX2_put_51 : decode cX2_put 51 = .ok (.ifCond .eq 10, 3) := by decide +kernel
theorem dX2_put_54 : decode cX2_put 54 = .ok (.aload_n 0, 1) := by decide +kernel
theorem dX2_put_55 : decode cX2_put 55 = .ok (.iload_n 1, 1) := by decide +kernel
theorem dX2_put_56 : decode cX2_put 56 = .ok (.iload_n 2, 1) := by decide +kernel
theorem dX2_put_57 : decode cX2_put 57 = .ok (.iload_n 3, 1) := by decide +kernel
theorem dX2_put_58 : decode cX2_put 58 = .ok (.invokevirtual 44, 3) := by decide +kernel
theorem dX2_put_61 : decode cX2_put 61 = .ok (.return_, 1) := by decide +kernel
theorem dX2_append_0 : decode cX2_append 0 = .ok (.aload_n 0, 1) := by decide +kernel
theorem dX2_append_1 : decode cX2_append 1 = .ok (.getfield 22, 3) := by decide +kernel
theorem dX2_append_4 : decode cX2_append 4 = .ok (.ifCond .lt 52, 3) := by decide +kernel
theorem dX2_append_7 : decode cX2_append 7 = .ok (.aload_n 0, 1) := by decide +kernel
theorem dX2_append_8 : decode cX2_append 8 = .ok (.getfield 22, 3) := by decide +kernel
theorem dX2_append_11 : decode cX2_append 11 = .ok (.bipush 16, 2) := by decide +kernel
theorem dX2_append_13 : decode cX2_append 13 = .ok (.if_icmp .ge 43, 3) := by decide +kernel
theorem dX2_append_16 : decode cX2_append 16 = .ok (.aload_n 0, 1) := by decide +kernel
theorem dX2_append_17 : decode cX2_append 17 = .ok (.getfield 9, 3) := by decide +kernel
theorem dX2_append_20 : decode cX2_append 20 = .ok (.aload_n 0, 1) := by decide +kernel
theorem dX2_append_21 : decode cX2_append 21 = .ok (.getfield 22, 3) := by decide +kernel
theorem dX2_append_24 : decode cX2_append 24 = .ok (.iload_n 1, 1) := by decide +kernel
theorem dX2_append_25 : decode cX2_append 25 = .ok (.castore, 1) := by decide +kernel
theorem dX2_append_26 : decode cX2_append 26 = .ok (.aload_n 0, 1) := by decide +kernel
theorem dX2_append_27 : decode cX2_append 27 = .ok (.getfield 15, 3) := by decide +kernel
theorem dX2_append_30 : decode cX2_append 30 = .ok (.aload_n 0, 1) := by decide +kernel
theorem dX2_append_31 : decode cX2_append 31 = .ok (.getfield 22, 3) := by decide +kernel
theorem dX2_append_34 : decode cX2_append 34 = .ok (.iload_n 2, 1) := by decide +kernel
theorem dX2_append_35 : decode cX2_append 35 = .ok (.castore, 1) := by decide +kernel
theorem dX2_append_36 : decode cX2_append 36 = .ok (.aload_n 0, 1) := by decide +kernel
theorem dX2_append_37 : decode cX2_append 37 = .ok (.getfield 18, 3) := by decide +kernel
theorem dX2_append_40 : decode cX2_append 40 = .ok (.aload_n 0, 1) := by decide +kernel
theorem dX2_append_41 : decode cX2_append 41 = .ok (.getfield 22, 3) := by decide +kernel
theorem dX2_append_44 : decode cX2_append 44 = .ok (.iload_n 3, 1) := by decide +kernel
theorem dX2_append_45 : decode cX2_append 45 = .ok (.iastore, 1) := by decide +kernel
theorem dX2_append_46 : decode cX2_append 46 = .ok (.aload_n 0, 1) := by decide +kernel
theorem dX2_append_47 : decode cX2_append 47 = .ok (.dup, 1) := by decide +kernel
theorem dX2_append_48 : decode cX2_append 48 = .ok (.getfield 22, 3) := by decide +kernel
theorem dX2_append_51 : decode cX2_append 51 = .ok (.iconst 1, 1) := by decide +kernel
theorem dX2_append_52 : decode cX2_append 52 = .ok (.iadd, 1) := by decide +kernel
theorem dX2_append_53 : decode cX2_append 53 = .ok (.putfield 22, 3) := by decide +kernel
theorem dX2_append_56 : decode cX2_append 56 = .ok (.return_, 1) := by decide +kernel
theorem dX2_takeOut_0 : decode cX2_takeOut 0 = .ok (.iload_n 1, 1) := by decide +kernel
theorem dX2_takeOut_1 : decode cX2_takeOut 1 = .ok (.iconst 1, 1) := by decide +kernel
theorem dX2_takeOut_2 : decode cX2_takeOut 2 = .ok (.iadd, 1) := by decide +kernel
theorem dX2_takeOut_3 : decode cX2_takeOut 3 = .ok (.istore_n 2, 1) := by decide +kernel
theorem dX2_takeOut_4 : decode cX2_takeOut 4 = .ok (.iload_n 2, 1) := by decide +kernel
theorem dX2_takeOut_5 : decode cX2_takeOut 5 = .ok (.aload_n 0, 1) := by decide +kernel
theorem dX2_takeOut_6 : decode cX2_takeOut 6 = .ok (.getfield 22, 3) := by decide +kernel
theorem dX2_takeOut_9 : decode cX2_takeOut 9 = .ok (.if_icmp .ge 57, 3) := by decide +kernel
theorem dX2_takeOut_12 : decode cX2_takeOut 12 = .ok (.iload_n 2, 1) := by decide +kernel
theorem dX2_takeOut_13 : decode cX2_takeOut 13 = .ok (.bipush 16, 2) := by decide +kernel
theorem dX2_takeOut_15 : decode cX2_takeOut 15 = .ok (.if_icmp .ge 51, 3) := by decide +kernel
theorem dX2_takeOut_18 : decode cX2_takeOut 18 = .ok (.aload_n 0, 1) := by decide +kernel
theorem dX2_takeOut_19 : decode cX2_takeOut 19 = .ok (.getfield 9, 3) := by decide +kernel
theorem dX2_takeOut_22 : decode cX2_takeOut 22 = .ok (.iload_n 2, 1) := by decide +kernel
theorem dX2_takeOut_23 : decode cX2_takeOut 23 = .ok (.iconst 1, 1) := by decide +kernel
theorem dX2_takeOut_24 : decode cX2_takeOut 24 = .ok (.isub, 1) := by decide +kernel
theorem dX2_takeOut_25 : decode cX2_takeOut 25 = .ok (.aload_n 0, 1) := by decide +kernel
theorem dX2_takeOut_26 : decode cX2_takeOut 26 = .ok (.getfield 9, 3) := by decide +kernel
theorem dX2_takeOut_29 : decode cX2_takeOut 29 = .ok (.iload_n 2, 1) := by decide +kernel
theorem dX2_takeOut_30 : decode cX2_takeOut 30 = .ok (.caload, 1) := by decide +kernel
theorem dX2_takeOut_31 : decode cX2_takeOut 31 = .ok (.castore, 1) := by decide +kernel
theorem dX2_takeOut_32 : decode cX2_takeOut 32 = .ok (.aload_n 0, 1) := by decide +kernel
theorem dX2_takeOut_33 : decode cX2_takeOut 33 = .ok (.getfield 15, 3) := by decide +kernel
theorem dX2_takeOut_36 : decode cX2_takeOut 36 = .ok (.iload_n 2, 1) := by decide +kernel
theorem dX2_takeOut_37 : decode cX2_takeOut 37 = .ok (.iconst 1, 1) := by decide +kernel
theorem dX2_takeOut_38 : decode cX2_takeOut 38 = .ok (.isub, 1) := by decide +kernel
theorem dX2_takeOut_39 : decode cX2_takeOut 39 = .ok (.aload_n 0, 1) := by decide +kernel
theorem dX2_takeOut_40 : decode cX2_takeOut 40 = .ok (.getfield 15, 3) := by decide +kernel
theorem dX2_takeOut_43 : decode cX2_takeOut 43 = .ok (.iload_n 2, 1) := by decide +kernel
theorem dX2_takeOut_44 : decode cX2_takeOut 44 = .ok (.caload, 1) := by decide +kernel
theorem dX2_takeOut_45 : decode cX2_takeOut 45 = .ok (.castore, 1) := by decide +kernel
theorem dX2_takeOut_46 : decode cX2_takeOut 46 = .ok (.aload_n 0, 1) := by decide +kernel
theorem dX2_takeOut_47 : decode cX2_takeOut 47 = .ok (.getfield 18, 3) := by decide +kernel
theorem dX2_takeOut_50 : decode cX2_takeOut 50 = .ok (.iload_n 2, 1) := by decide +kernel
theorem dX2_takeOut_51 : decode cX2_takeOut 51 = .ok (.iconst 1, 1) := by decide +kernel
theorem dX2_takeOut_52 : decode cX2_takeOut 52 = .ok (.isub, 1) := by decide +kernel
theorem dX2_takeOut_53 : decode cX2_takeOut 53 = .ok (.aload_n 0, 1) := by decide +kernel
theorem dX2_takeOut_54 : decode cX2_takeOut 54 = .ok (.getfield 18, 3) := by decide +kernel
theorem dX2_takeOut_57 : decode cX2_takeOut 57 = .ok (.iload_n 2, 1) := by decide +kernel
theorem dX2_takeOut_58 : decode cX2_takeOut 58 = .ok (.iaload, 1) := by decide +kernel
theorem dX2_takeOut_59 : decode cX2_takeOut 59 = .ok (.iastore, 1) := by decide +kernel
theorem dX2_takeOut_60 : decode cX2_takeOut 60 = .ok (.iinc 2 1, 3) := by decide +kernel
theorem dX2_takeOut_63 : decode cX2_takeOut 63 = .ok (.goto (-59), 3) := by decide +kernel
theorem dX2_takeOut_66 : decode cX2_takeOut 66 = .ok (.aload_n 0, 1) := by decide +kernel
theorem dX2_takeOut_67 : decode cX2_takeOut 67 = .ok (.dup, 1) := by decide +kernel
theorem dX2_takeOut_68 : decode cX2_takeOut 68 = .ok (.getfield 22, 3) := by decide +kernel
theorem dX2_takeOut_71 : decode cX2_takeOut 71 = .ok (.iconst 1, 1) := by decide +kernel
theorem dX2_takeOut_72 : decode cX2_takeOut 72 = .ok (.isub, 1) := by decide +kernel
theorem dX2_takeOut_73 : decode cX2_takeOut 73 = .ok (.putfield 22, 3) := by decide +kernel
theorem dX2_takeOut_76 : decode cX2_takeOut 76 = .ok (.return_, 1) := by decide +kernel
theorem dX3_isLetter_0 : decode cX3_isLetter 0 = .ok (.iload_n 0, 1) := by decide +kernel
theorem dX3_isLetter_1 : decode cX3_isLetter 1 = .ok (.bipush 65, 2) := by decide +kernel
theorem dX3_isLetter_3 : decode cX3_isLetter 3 = .ok (.if_icmp .lt 13, 3) := by decide +kernel
theorem dX3_isLetter_6 : decode cX3_isLetter 6 = .ok (.iload_n 0, 1) := by decide +kernel
theorem dX3_isLetter_7 : decode cX3_isLetter 7 = .ok (.bipush 90, 2) := by decide +kernel
theorem dX3_isLetter_9 : decode cX3_isLetter 9 = .ok (.if_icmp .gt 7, 3) := by decide +kernel
theorem dX3_isLetter_12 : decode cX3_isLetter 12 = .ok (.iconst 1, 1) := by decide +kernel
theorem dX3_isLetter_13 : decode cX3_isLetter 13 = .ok (.goto 4, 3) := by decide +kernel
theorem dX3_isLetter_16 : decode cX3_isLetter 16 = .ok (.iconst 0, 1) := by decide +kernel
theorem dX3_isLetter_17 : decode cX3_isLetter 17 = .ok (.ireturn, 1) := by decide +kernel
theorem dX3_isMark_0 : decode cX3_isMark 0 = .ok (.iload_n 0, 1) := by decide +kernel
theorem dX3_isMark_1 : decode cX3_isMark 1 = .ok (.bipush 46, 2) := by decide +kernel
theorem dX3_isMark_3 : decode cX3_isMark 3 = .ok (.if_icmp .eq 9, 3) := by decide +kernel
theorem dX3_isMark_6 : decode cX3_isMark 6 = .ok (.iload_n 0, 1) := by decide +kernel
theorem dX3_isMark_7 : decode cX3_isMark 7 = .ok (.bipush 45, 2) := by decide +kernel
theorem dX3_isMark_9 : decode cX3_isMark 9 = .ok (.if_icmp .ne 7, 3) := by decide +kernel
theorem dX3_isMark_12 : decode cX3_isMark 12 = .ok (.iconst 1, 1) := by decide +kernel
theorem dX3_isMark_13 : decode cX3_isMark 13 = .ok (.goto 4, 3) := by decide +kernel
theorem dX3_isMark_16 : decode cX3_isMark 16 = .ok (.iconst 0, 1) := by decide +kernel
theorem dX3_isMark_17 : decode cX3_isMark 17 = .ok (.ireturn, 1) := by decide +kernel
set_option maxRecDepth 20000 in
theorem ggX3_isKnown_X3_isLetter : GoodIn wsX3_isKnown wsX3_isLetter := goodIn_r _ [4] (by decide +kernel) (by decide +kernel)
set_option maxRecDepth 20000 in
theorem gX3_isKnown_X3_isLetter : GoodIn wsX3_isKnown (va_wsS RX3 7 yX3_isLetter wsX3_isLetter) := goodIn_app (goodIn_of _ (by decide +kernel)) ggX3_isKnown_X3_isLetter
set_option maxRecDepth 20000 in
theorem ggX3_isKnown_X3_isMark : GoodIn wsX3_isKnown wsX3_isMark := goodIn_r _ [7] (by decide +kernel) (by decide +kernel)
set_option maxRecDepth 20000 in
theorem gX3_isKnown_X3_isMark : GoodIn wsX3_isKnown (va_wsS RX3 13 yX3_isMark wsX3_isMark) := goodIn_app (goodIn_of _ (by decide +kernel)) ggX3_isKnown_X3_isMark
theorem dX3_isKnown_0 : decode cX3_isKnown 0 = .ok (.iload_n 0, 1) := by decide +kernel
theorem dX3_isKnown_1 : decode cX3_isKnown 1 = .ok (.invokestatic 7, 3) := by decide +kernel
theorem dX3_isKnown_4 : decode cX3_isKnown 4 = .ok (.ifCond .ne 10, 3) := by decide +kernel
theorem dX3_isKnown_7 : decode cX3_isKnown 7 = .ok (.iload_n 0, 1) := by decide +kernel
theorem dX3_isKnown_8 : decode cX3_isKnown 8 = .ok (.invokestatic 13, 3) := by decide +kernel
theorem dX3_isKnown_11 : decode cX3_isKnown 11 = .ok (.ifCond .eq 7, 3) := by decide +kernel
theorem dX3_isKnown_14 : decode cX3_isKnown 14 = .ok (.iconst 1, 1) := by decide +kernel
theorem dX3_isKnown_15 : decode cX3_isKnown 15 = .ok (.goto 4, 3) := by decide +kernel
theorem dX3_isKnown_18 : decode cX3_isKnown 18 = .ok (.iconst 0, 1) := by decide +kernel
theorem dX3_isKnown_19 : decode cX3_isKnown 19 = .ok (.ireturn, 1) := by decide +kernel
theorem dX3_width_0 : decode cX3_width 0 = .ok (.iload_n 0, 1) := by decide +kernel
theorem dX3_width_1 : decode cX3_width 1 = .ok (.bipush 46, 2) := by decide +kernel
theorem dX3_width_3 : decode cX3_width 3 = .ok (.if_icmp .ne 5, 3) := by decide +kernel
theorem dX3_width_6 : decode cX3_width 6 = .ok (.iconst 2, 1) := by decide +kernel
theorem dX3_width_7 : decode cX3_width 7 = .ok (.ireturn, 1) := by decide +kernel
theorem dX3_width_8 : decode cX3_width 8 = .ok (.iload_n 0, 1) := by decide +kernel
theorem dX3_width_9 : decode cX3_width 9 = .ok (.bipush 45, 2) := by decide +kernel
theorem dX3_width_11 : decode cX3_width 11 = .ok (.if_icmp .ne 5, 3) := by decide +kernel
theorem dX3_width_14 : decode cX3_width 14 = .ok (.iconst 4, 1) := by decide +kernel
theorem dX3_width_15 : decode cX3_width 15 = .ok (.ireturn, 1) := by decide +kernel
theorem dX3_width_16 : decode cX3_width 16 = .ok (.iconst 3, 1) := by decide +kernel
theorem dX3_width_17 : decode cX3_width 17 = .ok (.iload_n 0, 1) := by decide +kernel
theorem dX3_width_18 : decode cX3_width 18 = .ok (.bipush 65, 2) := by decide +kernel
theorem dX3_width_20 : decode cX3_width 20 = .ok (.isub, 1) := by decide +kernel
theorem dX3_width_21 : decode cX3_width 21 = .ok (.iconst 5, 1) := by decide +kernel
theorem dX3_width_22 : decode cX3_width 22 = .ok (.imul, 1) := by decide +kernel
theorem dX3_width_23 : decode cX3_width 23 = .ok (.bipush 7, 2) := by decide +kernel
theorem dX3_width_25 : decode cX3_width 25 = .ok (.irem, 1) := by decide +kernel
theorem dX3_width_26 : decode cX3_width 26 = .ok (.iadd, 1) := by decide +kernel
theorem dX3_width_27 : decode cX3_width 27 = .ok (.ireturn, 1) := by decide +kernel
theorem dX3_openness_0 : decode cX3_openness 0 = .ok (.iload_n 0, 1) := by decide +kernel
theorem dX3_openness_1 : decode cX3_openness 1 = .ok (.bipush 46, 2) := by decide +kernel
theorem dX3_openness_3 : decode cX3_openness 3 = .ok (.if_icmp .eq 9, 3) := by decide +kernel
theorem dX3_openness_6 : decode cX3_openness 6 = .ok (.iload_n 0, 1) := by decide +kernel
theorem dX3_openness_7 : decode cX3_openness 7 = .ok (.bipush 45, 2) := by decide +kernel
theorem dX3_openness_9 : decode cX3_openness 9 = .ok (.if_icmp .ne 5, 3) := by decide +kernel
theorem dX3_openness_12 : decode cX3_openness 12 = .ok (.iconst 2, 1) := by decide +kernel
theorem dX3_openness_13 : decode cX3_openness 13 = .ok (.ireturn, 1) := by decide +kernel
theorem dX3_openness_14 : decode cX3_openness 14 = .ok (.iload_n 0, 1) := by decide +kernel
theorem dX3_openness_15 : decode cX3_openness 15 = .ok (.bipush 65, 2) := by decide +kernel
theorem dX3_openness_17 : decode cX3_openness 17 = .ok (.isub, 1) := by decide +kernel
theorem dX3_openness_18 : decode cX3_openness 18 = .ok (.iconst 3, 1) := by decide +kernel
theorem dX3_openness_19 : decode cX3_openness 19 = .ok (.irem, 1) := by decide +kernel
theorem dX3_openness_20 : decode cX3_openness 20 = .ok (.ireturn, 1) := by decide +kernel
theorem dX3_ink_0 : decode cX3_ink 0 = .ok (.iload_n 0, 1) := by decide +kernel
theorem dX3_ink_1 : decode cX3_ink 1 = .ok (.bipush 46, 2) := by decide +kernel
theorem dX3_ink_3 : decode cX3_ink 3 = .ok (.if_icmp .ne 5, 3) := by decide +kernel
theorem dX3_ink_6 : decode cX3_ink 6 = .ok (.iconst 1, 1) := by decide +kernel
theorem dX3_ink_7 : decode cX3_ink 7 = .ok (.ireturn, 1) := by decide +kernel
theorem dX3_ink_8 : decode cX3_ink 8 = .ok (.iload_n 0, 1) := by decide +kernel
theorem dX3_ink_9 : decode cX3_ink 9 = .ok (.bipush 45, 2) := by decide +kernel
theorem dX3_ink_11 : decode cX3_ink 11 = .ok (.if_icmp .ne 5, 3) := by decide +kernel
theorem dX3_ink_14 : decode cX3_ink 14 = .ok (.iconst 2, 1) := by decide +kernel
theorem dX3_ink_15 : decode cX3_ink 15 = .ok (.ireturn, 1) := by decide +kernel
theorem dX3_ink_16 : decode cX3_ink 16 = .ok (.iconst 1, 1) := by decide +kernel
theorem dX3_ink_17 : decode cX3_ink 17 = .ok (.iload_n 0, 1) := by decide +kernel
theorem dX3_ink_18 : decode cX3_ink 18 = .ok (.bipush 65, 2) := by decide +kernel
theorem dX3_ink_20 : decode cX3_ink 20 = .ok (.isub, 1) := by decide +kernel
theorem dX3_ink_21 : decode cX3_ink 21 = .ok (.iconst 3, 1) := by decide +kernel
theorem dX3_ink_22 : decode cX3_ink 22 = .ok (.imul, 1) := by decide +kernel
theorem dX3_ink_23 : decode cX3_ink 23 = .ok (.iconst 5, 1) := by decide +kernel
theorem dX3_ink_24 : decode cX3_ink 24 = .ok (.irem, 1) := by decide +kernel
theorem dX3_ink_25 : decode cX3_ink 25 = .ok (.iadd, 1) := by decide +kernel
theorem dX3_ink_26 : decode cX3_ink 26 = .ok (.ireturn, 1) := by decide +kernel
set_option maxRecDepth 20000 in
theorem ggX4_init_X1_init : GoodIn wsX4_init wsX1_init := goodIn_r _ [21, 22, 2, 3, 23, 24, 25, 26, 27, 35, 36, 37] (by decide +kernel) (by decide +kernel)
set_option maxRecDepth 20000 in
theorem gX4_init_X1_init_n11 : GoodIn wsX4_init (wsX1_init) := ggX4_init_X1_init
set_option maxRecDepth 20000 in
theorem ggX4_init_X2_init : GoodIn wsX4_init wsX2_init := goodIn_r _ [29, 30, 2, 3, 23, 31, 32, 25, 33, 34, 48, 49, 50, 51] (by decide +kernel) (by decide +kernel)
set_option maxRecDepth 20000 in
theorem gX4_init_X2_init_n20 : GoodIn wsX4_init (wsX2_init) := ggX4_init_X2_init
theorem dX4_init_0 : decode cX4_init 0 = .ok (.aload_n 0, 1) := by decide +kernel
theorem dX4_init_1 : decode cX4_init 1 = .ok (.invokespecial 3, 3) := by decide +kernel
theorem dX4_init_4 : decode cX4_init 4 = .ok (.aload_n 0, 1) := by decide +kernel
theorem dX4_init_5 : decode cX4_init 5 = .ok (.new 9, 3) := by decide +kernel
theorem dX4_init_8 : decode cX4_init 8 = .ok (.dup, 1) := by decide +kernel
theorem dX4_init_9 : decode cX4_init 9 = .ok (.invokespecial 11, 3) := by decide +kernel
theorem dX4_init_12 : decode cX4_init 12 = .ok (.putfield 12, 3) := by decide +kernel
theorem dX4_init_15 : decode cX4_init 15 = .ok (.aload_n 0, 1) := by decide +kernel
theorem dX4_init_16 : decode cX4_init 16 = .ok (.new 18, 3) := by decide +kernel
theorem dX4_init_19 : decode cX4_init 19 = .ok (.dup, 1) := by decide +kernel
theorem dX4_init_20 : decode cX4_init 20 = .ok (.invokespecial 20, 3) := by decide +kernel
theorem dX4_init_23 : decode cX4_init 23 = .ok (.putfield 21, 3) := by decide +kernel
theorem dX4_init_26 : decode cX4_init 26 = .ok (.aload_n 0, 1) := by decide +kernel
theorem dX4_init_27 : decode cX4_init 27 = .ok (.sipush 2000, 3) := by decide +kernel
theorem dX4_init_30 : decode cX4_init 30 = .ok (.putfield 25, 3) := by decide +kernel
theorem dX4_init_33 : decode cX4_init 33 = .ok (.aload_n 0, 1) := by decide +kernel
theorem dX4_init_34 : decode cX4_init 34 = .ok (.sipush 1000, 3) := by decide +kernel
theorem dX4_init_37 : decode cX4_init 37 = .ok (.putfield 29, 3) := by decide +kernel
theorem dX4_init_40 : decode cX4_init 40 = .ok (.aload_n 0, 1) := by decide +kernel
theorem dX4_init_41 : decode cX4_init 41 = .ok (.bipush 20, 2) := by decide +kernel
theorem dX4_init_43 : decode cX4_init 43 = .ok (.putfield 32, 3) := by decide +kernel
theorem dX4_init_46 : decode cX4_init 46 = .ok (.aload_n 0, 1) := by decide +kernel
theorem dX4_init_47 : decode cX4_init 47 = .ok (.iconst 1, 1) := by decide +kernel
theorem dX4_init_48 : decode cX4_init 48 = .ok (.putfield 35, 3) := by decide +kernel
theorem dX4_init_51 : decode cX4_init 51 = .ok (.aload_n 0, 1) := by decide +kernel
theorem dX4_init_52 : decode cX4_init 52 = .ok (.iconst 0, 1) := by decide +kernel
theorem dX4_init_53 : decode cX4_init 53 = .ok (.putfield 38, 3) := by decide +kernel
theorem dX4_init_56 : decode cX4_init 56 = .ok (.aload_n 0, 1) := by decide +kernel
theorem dX4_init_57 : decode cX4_init 57 = .ok (.iconst 0, 1) := by decide +kernel
theorem dX4_init_58 : decode cX4_init 58 = .ok (.putfield 41, 3) := by decide +kernel
theorem dX4_init_61 : decode cX4_init 61 = .ok (.aload_n 0, 1) := by decide +kernel
theorem dX4_init_62 : decode cX4_init 62 = .ok (.iconst 0, 1) := by decide +kernel
theorem dX4_init_63 : decode cX4_init 63 = .ok (.putfield 44, 3) := by decide +kernel
theorem dX4_init_66 : decode cX4_init 66 = .ok (.aload_n 0, 1) := by decide +kernel
theorem dX4_init_67 : decode cX4_init 67 = .ok (.iconst 0, 1) := by decide +kernel
theorem dX4_init_68 : decode cX4_init 68 = .ok (.putfield 47, 3) := by decide +kernel
theorem dX4_init_71 : decode cX4_init 71 = .ok (.return_, 1) := by decide +kernel
set_option maxRecDepth 20000 in
theorem ggX4_copyFrom_X1_copyFrom : GoodIn wsX4_copyFrom wsX1_copyFrom := goodIn_r _ [15, 16, 17, 18, 19, 20, 21, 22, 43, 44, 45] (by decide +kernel) (by decide +kernel)
set_option maxRecDepth 20000 in
theorem gX4_copyFrom_X1_copyFrom : GoodIn wsX4_copyFrom (wsV RX4 50 RX1 yX1_copyFrom wsX1_copyFrom) := goodIn_app (goodIn_of _ (by decide +kernel)) ggX4_copyFrom_X1_copyFrom
set_option maxRecDepth 20000 in
theorem ggX4_copyFrom_X2_copyFrom : GoodIn wsX4_copyFrom wsX2_copyFrom := goodIn_r _ [27, 28, 29, 18, 19, 20, 30, 31, 32, 46, 47, 48, 49] (by decide +kernel) (by decide +kernel)
set_option maxRecDepth 20000 in
theorem gX4_copyFrom_X2_copyFrom : GoodIn wsX4_copyFrom (wsV RX4 54 RX2 yX2_copyFrom wsX2_copyFrom) := goodIn_app (goodIn_of _ (by decide +kernel)) ggX4_copyFrom_X2_copyFrom
theorem dX4_copyFrom_0 : decode cX4_copyFrom 0 = .ok (.aload_n 0, 1) := by decide +kernel
theorem dX4_copyFrom_1 : decode cX4_copyFrom 1 = .ok (.getfield 12, 3) := by decide +kernel
theorem dX4_copyFrom_4 : decode cX4_copyFrom 4 = .ok (.aload_n 1, 1) := by decide +kernel
theorem dX4_copyFrom_5 : decode cX4_copyFrom 5 = .ok (.getfield 12, 3) := by decide +kernel
theorem dX4_copyFrom_8 : decode cX4_copyFrom 8 = .ok (.invokevirtual 50, 3) := by decide +kernel
theorem dX4_copyFrom_11 : decode cX4_copyFrom 11 = .ok (.aload_n 0, 1) := by decide +kernel
theorem dX4_copyFrom_12 : decode cX4_copyFrom 12 = .ok (.getfield 21, 3) := by decide +kernel
theorem dX4_copyFrom_15 : decode cX4_copyFrom 15 = .ok (.aload_n 1, 1) := by decide +kernel
theorem dX4_copyFrom_16 : decode cX4_copyFrom 16 = .ok (.getfield 21, 3) := by decide +kernel
theorem dX4_copyFrom_19 : decode cX4_copyFrom 19 = .ok (.invokevirtual 54, 3) := by decide +kernel
theorem dX4_copyFrom_22 : decode cX4_copyFrom 22 = .ok (.aload_n 0, 1) := by decide +kernel
theorem dX4_copyFrom_23 : decode cX4_copyFrom 23 = .ok (.aload_n 1, 1) := by decide +kernel
theorem dX4_copyFrom_24 : decode cX4_copyFrom 24 = .ok (.getfield 25, 3) := by decide +kernel
theorem dX4_copyFrom_27 : decode cX4_copyFrom 27 = .ok (.putfield 25, 3) := by decide +kernel
theorem dX4_copyFrom_30 : decode cX4_copyFrom 30 = .ok (.aload_n 0, 1) := by decide +kernel
theorem dX4_copyFrom_31 : decode cX4_copyFrom 31 = .ok (.aload_n 1, 1) := by decide +kernel
theorem dX4_copyFrom_32 : decode cX4_copyFrom 32 = .ok (.getfield 29, 3) := by decide +kernel
theorem dX4_copyFrom_35 : decode cX4_copyFrom 35 = .ok (.putfield 29, 3) := by decide +kernel
theorem dX4_copyFrom_38 : decode cX4_copyFrom 38 = .ok (.aload_n 0, 1) := by decide +kernel
theorem dX4_copyFrom_39 : decode cX4_copyFrom 39 = .ok (.aload_n 1, 1) := by decide +kernel
theorem dX4_copyFrom_40 : decode cX4_copyFrom 40 = .ok (.getfield 32, 3) := by decide +kernel
theorem dX4_copyFrom_43 : decode cX4_copyFrom 43 = .ok (.putfield 32, 3) := by decide +kernel
theorem dX4_copyFrom_46 : decode cX4_copyFrom 46 = .ok (.aload_n 0, 1) := by decide +kernel
theorem dX4_copyFrom_47 : decode cX4_copyFrom 47 = .ok (.aload_n 1, 1) := by decide +kernel
theorem dX4_copyFrom_48 : decode cX4_copyFrom 48 = .ok (.getfield 35, 3) := by decide +kernel
theorem dX4_copyFrom_51 : decode cX4_copyFrom 51 = .ok (.putfield 35, 3) := by decide +kernel
theorem dX4_copyFrom_54 : decode cX4_copyFrom 54 = .ok (.aload_n 0, 1) := by decide +kernel
theorem dX4_copyFrom_55 : decode cX4_copyFrom 55 = .ok (.aload_n 1, 1) := by decide +kernel
theorem dX4_copyFrom_56 : decode cX4_copyFrom 56 = .ok (.getfield 38, 3) := by decide +kernel
theorem dX4_copyFrom_59 : decode cX4_copyFrom 59 = .ok (.putfield 38, 3) := by decide +kernel
theorem dX4_copyFrom_62 : decode cX4_copyFrom 62 = .ok (.aload_n 0, 1) := by decide +kernel
theorem dX4_copyFrom_63 : decode cX4_copyFrom 63 = .ok (.aload_n 1, 1) := by decide +kernel
theorem dX4_copyFrom_64 : decode cX4_copyFrom 64 = .ok (.getfield 41, 3) := by decide +kernel
theorem dX4_copyFrom_67 : decode cX4_copyFrom 67 = .ok (.putfield 41, 3) := by decide +kernel
theorem dX4_copyFrom_70 : decode cX4_copyFrom 70 = .ok (.aload_n 0, 1) := by decide +kernel
theorem dX4_copyFrom_71 : decode cX4_copyFrom 71 = .ok (.aload_n 1, 1) := by decide +kernel
theorem dX4_copyFrom_72 : decode cX4_copyFrom 72 = .ok (.getfield 44, 3) := by decide +kernel
theorem dX4_copyFrom_75 : decode cX4_copyFrom 75 = .ok (.putfield 44, 3) := by decide +kernel
theorem dX4_copyFrom_78 : decode cX4_copyFrom 78 = .ok (.aload_n 0, 1) := by decide +kernel
theorem dX4_copyFrom_79 : decode cX4_copyFrom 79 = .ok (.aload_n 1, 1) := by decide +kernel
theorem dX4_copyFrom_80 : decode cX4_copyFrom 80 = .ok (.getfield 47, 3) := by decide +kernel
theorem dX4_copyFrom_83 : decode cX4_copyFrom 83 = .ok (.putfield 47, 3) := by decide +kernel
theorem dX4_copyFrom_86 : decode cX4_copyFrom 86 = .ok (.return_, 1) := by decide +kernel
set_option maxRecDepth 20000 in
theorem ggX4_cutAnew_X4_engravedNames : GoodIn wsX4_cutAnew wsX4_engravedNames := goodIn_r _ [10, 3, 11, 12, 13, 14, 15, 16, 17, 18, 19, 20, 21, 22, 23, 24, 25, 26, 27] (by decide +kernel) (by decide +kernel)
set_option maxRecDepth 20000 in
theorem gX4_cutAnew_X4_engravedNames : GoodIn wsX4_cutAnew (wsV RX4 57 RX4 yX4_engravedNames wsX4_engravedNames) := goodIn_app (goodIn_of _ (by decide +kernel)) ggX4_cutAnew_X4_engravedNames
theorem dX4_cutAnew_0 : decode cX4_cutAnew 0 = .ok (.aload_n 0, 1) := by decide +kernel
theorem dX4_cutAnew_1 : decode cX4_cutAnew 1 = .ok (.invokevirtual 57, 3) := by decide +kernel
theorem dX4_cutAnew_4 : decode cX4_cutAnew 4 = .ok (.istore_n 3, 1) := by decide +kernel
theorem dX4_cutAnew_5 : decode cX4_cutAnew 5 = .ok (.aload_n 0, 1) := by decide +kernel
theorem dX4_cutAnew_6 : decode cX4_cutAnew 6 = .ok (.iload_n 1, 1) := by decide +kernel
theorem dX4_cutAnew_7 : decode cX4_cutAnew 7 = .ok (.putfield 25, 3) := by decide +kernel
theorem dX4_cutAnew_10 : decode cX4_cutAnew 10 = .ok (.aload_n 0, 1) := by decide +kernel
theorem dX4_cutAnew_11 : decode cX4_cutAnew 11 = .ok (.iload_n 2, 1) := by decide +kernel
theorem dX4_cutAnew_12 : decode cX4_cutAnew 12 = .ok (.putfield 29, 3) := by decide +kernel
theorem dX4_cutAnew_15 : decode cX4_cutAnew 15 = .ok (.aload_n 0, 1) := by decide +kernel
theorem dX4_cutAnew_16 : decode cX4_cutAnew 16 = .ok (.iconst 0, 1) := by decide +kernel
theorem dX4_cutAnew_17 : decode cX4_cutAnew 17 = .ok (.putfield 38, 3) := by decide +kernel
theorem dX4_cutAnew_20 : decode cX4_cutAnew 20 = .ok (.aload_n 0, 1) := by decide +kernel
theorem dX4_cutAnew_21 : decode cX4_cutAnew 21 = .ok (.dup, 1) := by decide +kernel
theorem dX4_cutAnew_22 : decode cX4_cutAnew 22 = .ok (.getfield 44, 3) := by decide +kernel
theorem dX4_cutAnew_25 : decode cX4_cutAnew 25 = .ok (.iconst 1, 1) := by decide +kernel
theorem dX4_cutAnew_26 : decode cX4_cutAnew 26 = .ok (.iadd, 1) := by decide +kernel
theorem dX4_cutAnew_27 : decode cX4_cutAnew 27 = .ok (.putfield 44, 3) := by decide +kernel
theorem dX4_cutAnew_30 : decode cX4_cutAnew 30 = .ok (.aload_n 0, 1) := by decide +kernel
theorem dX4_cutAnew_31 : decode cX4_cutAnew 31 = .ok (.dup, 1) := by decide +kernel
theorem dX4_cutAnew_32 : decode cX4_cutAnew 32 = .ok (.getfield 47, 3) := by decide +kernel
theorem dX4_cutAnew_35 : decode cX4_cutAnew 35 = .ok (.iload_n 3, 1) := by decide +kernel
theorem dX4_cutAnew_36 : decode cX4_cutAnew 36 = .ok (.iadd, 1) := by decide +kernel
theorem dX4_cutAnew_37 : decode cX4_cutAnew 37 = .ok (.putfield 47, 3) := by decide +kernel
theorem dX4_cutAnew_40 : decode cX4_cutAnew 40 = .ok (.iload_n 3, 1) := by decide +kernel
theorem dX4_cutAnew_41 : decode cX4_cutAnew 41 = .ok (.ireturn, 1) := by decide +kernel
theorem dX4_hasEngraved_0 : decode cX4_hasEngraved 0 = .ok (.aload_n 0, 1) := by decide +kernel
theorem dX4_hasEngraved_1 : decode cX4_hasEngraved 1 = .ok (.getfield 38, 3) := by decide +kernel
theorem dX4_hasEngraved_4 : decode cX4_hasEngraved 4 = .ok (.ifCond .eq 7, 3) := by decide +kernel
theorem dX4_hasEngraved_7 : decode cX4_hasEngraved 7 = .ok (.iconst 1, 1) := by decide +kernel
theorem dX4_hasEngraved_8 : decode cX4_hasEngraved 8 = .ok (.goto 4, 3) := by decide +kernel
theorem dX4_hasEngraved_11 : decode cX4_hasEngraved 11 = .ok (.iconst 0, 1) := by decide +kernel
theorem dX4_hasEngraved_12 : decode cX4_hasEngraved 12 = .ok (.ireturn, 1) := by decide +kernel
set_option maxRecDepth 20000 in
theorem ggX4_engravedNames_J6_bitCount_0f7a4 : GoodIn wsX4_engravedNames wsJ6_bitCount_0f7a4 := goodIn_r _ [5, 6, 7, 8] (by decide +kernel) (by decide +kernel)
set_option maxRecDepth 20000 in
theorem gX4_engravedNames_J6_bitCount_0f7a4 : GoodIn wsX4_engravedNames (va_wsS RX4 61 yJ6_bitCount_0f7a4 wsJ6_bitCount_0f7a4) := goodIn_app (goodIn_of _ (by decide +kernel)) ggX4_engravedNames_J6_bitCount_0f7a4
theorem dX4_engravedNames_0 : decode cX4_engravedNames 0 = .ok (.aload_n 0, 1) := by decide +kernel
theorem dX4_engravedNames_1 : decode cX4_engravedNames 1 = .ok (.getfield 38, 3) := by decide +kernel
theorem dX4_engravedNames_4 : decode cX4_engravedNames 4 = .ok (.invokestatic 61, 3) := by decide +kernel
theorem dX4_engravedNames_7 : decode cX4_engravedNames 7 = .ok (.ireturn, 1) := by decide +kernel
theorem dX4_isEngraved_0 : decode cX4_isEngraved 0 = .ok (.aload_n 0, 1) := by decide +kernel
theorem dX4_isEngraved_1 : decode cX4_isEngraved 1 = .ok (.getfield 38, 3) := by decide +kernel
theorem dX4_isEngraved_4 : decode cX4_isEngraved 4 = .ok (.iload_n 1, 1) := by decide +kernel
theorem dX4_isEngraved_5 : decode cX4_isEngraved 5 = .ok (.ishr, 1) := by decide +kernel
theorem dX4_isEngraved_6 : decode cX4_isEngraved 6 = .ok (.iconst 1, 1) := by decide +kernel
theorem dX4_isEngraved_7 : decode cX4_isEngraved 7 = .ok (.iand, 1) := by decide +kernel
theorem dX4_isEngraved_8 : decode cX4_isEngraved 8 = .ok (.ifCond .eq 7, 3) := by decide +kernel
theorem dX4_isEngraved_11 : decode cX4_isEngraved 11 = .ok (.iconst 1, 1) := by decide +kernel
theorem dX4_isEngraved_12 : decode cX4_isEngraved 12 = .ok (.goto 4, 3) := by decide +kernel
theorem dX4_isEngraved_15 : decode cX4_isEngraved 15 = .ok (.iconst 0, 1) := by decide +kernel
theorem dX4_isEngraved_16 : decode cX4_isEngraved 16 = .ok (.ireturn, 1) := by decide +kernel
theorem dX4_isEngravedFrom_0 : decode cX4_isEngravedFrom 0 = .ok (.aload_n 0, 1) := by decide +kernel
theorem dX4_isEngravedFrom_1 : decode cX4_isEngravedFrom 1 = .ok (.getfield 38, 3) := by decide +kernel
theorem dX4_isEngravedFrom_4 : decode cX4_isEngravedFrom 4 = .ok (.iload_n 1, 1) := by decide +kernel
theorem dX4_isEngravedFrom_5 : decode cX4_isEngravedFrom 5 = .ok (.ishr, 1) := by decide +kernel
theorem dX4_isEngravedFrom_6 : decode cX4_isEngravedFrom 6 = .ok (.ifCond .eq 7, 3) := by decide +kernel
theorem dX4_isEngravedFrom_9 : decode cX4_isEngravedFrom 9 = .ok (.iconst 1, 1) := by decide +kernel
theorem dX4_isEngravedFrom_10 : decode cX4_isEngravedFrom 10 = .ok (.goto 4, 3) := by decide +kernel
theorem dX4_isEngravedFrom_13 : decode cX4_isEngravedFrom 13 = .ok (.iconst 0, 1) := by decide +kernel
theorem dX4_isEngravedFrom_14 : decode cX4_isEngravedFrom 14 = .ok (.ireturn, 1) := by decide +kernel
set_option maxRecDepth 20000 in
theorem ggX4_engravableSeats_X4_isEngraved : GoodIn wsX4_engravableSeats wsX4_isEngraved := goodIn_r _ [6, 7, 79, 80, 81, 82, 83, 84, 85, 86, 87, 88] (by decide +kernel) (by decide +kernel)
set_option maxRecDepth 20000 in
theorem gX4_engravableSeats_X4_isEngraved : GoodIn wsX4_engravableSeats (wsV RX4 70 RX4 yX4_isEngraved wsX4_isEngraved) := goodIn_app (goodIn_of _ (by decide +kernel)) ggX4_engravableSeats_X4_isEngraved
set_option maxRecDepth 20000 in
theorem ggX4_engravableSeats_X4_fits : GoodIn wsX4_engravableSeats wsX4_fits := goodIn_r _ [11, 12, 13, 14, 15, 16, 17, 5, 18, 1, 19, 20, 21, 22, 23, 24, 25, 26, 27, 28, 29, 30, 31, 32, 33, 34, 35, 36, 37, 38, 39, 40, 41, 42, 43, 44, 45, 46, 47, 48, 49, 50, 51, 52, 53, 54, 55, 56, 57, 58, 59, 60, 61, 62, 63, 64, 65, 66, 67, 68, 69, 70, 71, 72, 73, 74, 75, 76, 77, 78, 79, 80, 81, 82, 83, 84, 85, 86, 87, 88, 89, 90, 91, 92, 93, 94, 95] (by decide +kernel) (by decide +kernel)
set_option maxRecDepth 20000 in
theorem gX4_engravableSeats_X4_fits : GoodIn wsX4_engravableSeats (wsV RX4 74 RX4 yX4_fits wsX4_fits) := goodIn_app (goodIn_of _ (by decide +kernel)) ggX4_engravableSeats_X4_fits
theorem dX4_engravableSeats_0 : decode cX4_engravableSeats 0 = .ok (.iconst 0, 1) := by decide +kernel
theorem dX4_engravableSeats_1 : decode cX4_engravableSeats 1 = .ok (.istore_n 2, 1) := by decide +kernel
theorem dX4_engravableSeats_2 : decode cX4_engravableSeats 2 = .ok (.iconst 0, 1) := by decide +kernel
theorem dX4_engravableSeats_3 : decode cX4_engravableSeats 3 = .ok (.istore_n 3, 1) := by decide +kernel
theorem dX4_engravableSeats_4 : decode cX4_engravableSeats 4 = .ok (.iload_n 3, 1) := by decide +kernel
theorem dX4_engravableSeats_5 : decode cX4_engravableSeats 5 = .ok (.aload_n 0, 1) := by decide +kernel
theorem dX4_engravableSeats_6 : decode cX4_engravableSeats 6 = .ok (.getfield 12, 3) := by decide +kernel
theorem dX4_engravableSeats_9 : decode cX4_engravableSeats 9 = .ok (.getfield 67, 3) := by decide +kernel
theorem dX4_engravableSeats_12 : decode cX4_engravableSeats 12 = .ok (.if_icmp .ge 32, 3) := by decide +kernel
theorem dX4_engravableSeats_15 : decode cX4_engravableSeats 15 = .ok (.aload_n 0, 1) := by decide +kernel
theorem dX4_engravableSeats_16 : decode cX4_engravableSeats 16 = .ok (.iload_n 3, 1) := by decide +kernel
theorem dX4_engravableSeats_17 : decode cX4_engravableSeats 17 = .ok (.invokevirtual 70, 3) := by decide +kernel
theorem dX4_engravableSeats_20 : decode cX4_engravableSeats 20 = .ok (.ifCond .ne 18, 3) := by decide +kernel
theorem dX4_engravableSeats_23 : decode cX4_engravableSeats 23 = .ok (.aload_n 0, 1) := by decide +kernel
theorem dX4_engravableSeats_24 : decode cX4_engravableSeats 24 = .ok (.iload_n 3, 1) := by decide +kernel
theorem dX4_engravableSeats_25 : decode cX4_engravableSeats 25 = .ok (.iload_n 1, 1) := by decide +kernel
theorem dX4_engravableSeats_26 : decode cX4_engravableSeats 26 = .ok (.invokevirtual 74, 3) := by decide +kernel
theorem dX4_engravableSeats_29 : decode cX4_engravableSeats 29 = .ok (.ifCond .eq 9, 3) := by decide +kernel
theorem dX4_engravableSeats_32 : decode cX4_engravableSeats 32 = .ok (.iload_n 2, 1) := by decide +kernel
theorem dX4_engravableSeats_33 : decode cX4_engravableSeats 33 = .ok (.iconst 1, 1) := by decide +kernel
theorem dX4_engravableSeats_34 : decode cX4_engravableSeats 34 = .ok (.iload_n 3, 1) := by decide +kernel
theorem dX4_engravableSeats_35 : decode cX4_engravableSeats 35 = .ok (.ishl, 1) := by decide +kernel
theorem dX4_engravableSeats_36 : decode cX4_engravableSeats 36 = .ok (.ior, 1) := by decide +kernel
theorem dX4_engravableSeats_37 : decode cX4_engravableSeats 37 = .ok (.istore_n 2, 1) := by decide +kernel
theorem dX4_engravableSeats_38 : decode cX4_engravableSeats 38 = .ok (.iinc 3 1, 3) := by decide +kernel
theorem dX4_engravableSeats_41 : decode cX4_engravableSeats 41 = .ok (.goto (-37), 3) := by decide +kernel
theorem dX4_engravableSeats_44 : decode cX4_engravableSeats 44 = .ok (.iload_n 2, 1) := by decide +kernel
theorem dX4_engravableSeats_45 : decode cX4_engravableSeats 45 = .ok (.ireturn, 1) := by decide +kernel
theorem dX4_markEngraved_0 : decode cX4_markEngraved 0 = .ok (.aload_n 0, 1) := by decide +kernel
theorem dX4_markEngraved_1 : decode cX4_markEngraved 1 = .ok (.dup, 1) := by decide +kernel
theorem dX4_markEngraved_2 : decode cX4_markEngraved 2 = .ok (.getfield 38, 3) := by decide +kernel
theorem dX4_markEngraved_5 : decode cX4_markEngraved 5 = .ok (.iload_n 1, 1) := by decide +kernel
theorem dX4_markEngraved_6 : decode cX4_markEngraved 6 = .ok (.ior, 1) := by decide +kernel
theorem dX4_markEngraved_7 : decode cX4_markEngraved 7 = .ok (.putfield 38, 3) := by decide +kernel
theorem dX4_markEngraved_10 : decode cX4_markEngraved 10 = .ok (.aload_n 0, 1) := by decide +kernel
theorem dX4_markEngraved_11 : decode cX4_markEngraved 11 = .ok (.iload_n 2, 1) := by decide +kernel
theorem dX4_markEngraved_12 : decode cX4_markEngraved 12 = .ok (.putfield 41, 3) := by decide +kernel
theorem dX4_markEngraved_15 : decode cX4_markEngraved 15 = .ok (.return_, 1) := by decide +kernel
set_option maxRecDepth 20000 in
theorem ggX4_isEngravedPair_X4_isEngraved : GoodIn wsX4_isEngravedPair wsX4_isEngraved := goodIn_r _ [6, 7, 23, 24, 25, 26, 27, 28, 29, 30, 31, 32] (by decide +kernel) (by decide +kernel)
set_option maxRecDepth 20000 in
theorem gX4_isEngravedPair_X4_isEngraved : GoodIn wsX4_isEngravedPair (wsV RX4 70 RX4 yX4_isEngraved wsX4_isEngraved) := goodIn_app (goodIn_of _ (by decide +kernel)) ggX4_isEngravedPair_X4_isEngraved
set_option maxRecDepth 20000 in
theorem ggX4_isEngravedPair_X4_hasPair : GoodIn wsX4_isEngravedPair wsX4_hasPair := goodIn_r _ [11, 1, 12, 13, 14, 15, 16, 17, 18, 19, 20, 21, 22, 23, 24, 25, 26, 27, 28, 29, 30, 31, 32, 33, 34, 35] (by decide +kernel) (by decide +kernel)
set_option maxRecDepth 20000 in
theorem gX4_isEngravedPair_X4_hasPair : GoodIn wsX4_isEngravedPair (wsV RX4 78 RX4 yX4_hasPair wsX4_hasPair) := goodIn_app (goodIn_of _ (by decide +kernel)) ggX4_isEngravedPair_X4_hasPair
theorem dX4_isEngravedPair_0 : decode cX4_isEngravedPair 0 = .ok (.iconst 0, 1) := by decide +kernel
theorem dX4_isEngravedPair_1 : decode cX4_isEngravedPair 1 = .ok (.istore_n 3, 1) := by decide +kernel
theorem dX4_isEngravedPair_2 : decode cX4_isEngravedPair 2 = .ok (.iload_n 3, 1) := by decide +kernel
theorem dX4_isEngravedPair_3 : decode cX4_isEngravedPair 3 = .ok (.aload_n 0, 1) := by decide +kernel
theorem dX4_isEngravedPair_4 : decode cX4_isEngravedPair 4 = .ok (.getfield 12, 3) := by decide +kernel
theorem dX4_isEngravedPair_7 : decode cX4_isEngravedPair 7 = .ok (.getfield 67, 3) := by decide +kernel
theorem dX4_isEngravedPair_10 : decode cX4_isEngravedPair 10 = .ok (.if_icmp .ge 29, 3) := by decide +kernel
theorem dX4_isEngravedPair_13 : decode cX4_isEngravedPair 13 = .ok (.aload_n 0, 1) := by decide +kernel
theorem dX4_isEngravedPair_14 : decode cX4_isEngravedPair 14 = .ok (.iload_n 3, 1) := by decide +kernel
theorem dX4_isEngravedPair_15 : decode cX4_isEngravedPair 15 = .ok (.invokevirtual 70, 3) := by decide +kernel
theorem dX4_isEngravedPair_18 : decode cX4_isEngravedPair 18 = .ok (.ifCond .eq 15, 3) := by decide +kernel
theorem dX4_isEngravedPair_21 : decode cX4_isEngravedPair 21 = .ok (.aload_n 0, 1) := by decide +kernel
theorem dX4_isEngravedPair_22 : decode cX4_isEngravedPair 22 = .ok (.iload_n 3, 1) := by decide +kernel
theorem dX4_isEngravedPair_23 : decode cX4_isEngravedPair 23 = .ok (.iload_n 1, 1) := by decide +kernel
theorem dX4_isEngravedPair_24 : decode cX4_isEngravedPair 24 = .ok (.iload_n 2, 1) := by decide +kernel
theorem dX4_isEngravedPair_25 : decode cX4_isEngravedPair 25 = .ok (.invokevirtual 78, 3) := by decide +kernel
theorem dX4_isEngravedPair_28 : decode cX4_isEngravedPair 28 = .ok (.ifCond .eq 5, 3) := by decide +kernel
theorem dX4_isEngravedPair_31 : decode cX4_isEngravedPair 31 = .ok (.iconst 1, 1) := by decide +kernel
theorem dX4_isEngravedPair_32 : decode cX4_isEngravedPair 32 = .ok (.ireturn, 1) := by decide +kernel
theorem dX4_isEngravedPair_33 : decode cX4_isEngravedPair 33 = .ok (.iinc 3 1, 3) := by decide +kernel
theorem dX4_isEngravedPair_36 : decode cX4_isEngravedPair 36 = .ok (.goto (-34), 3) := by decide +kernel
theorem dX4_isEngravedPair_39 : decode cX4_isEngravedPair 39 = .ok (.iconst 0, 1) := by decide +kernel
theorem dX4_isEngravedPair_40 : decode cX4_isEngravedPair 40 = .ok (.ireturn, 1) := by decide +kernel
set_option maxRecDepth 20000 in
theorem ggX4_hasPair_X1_lengthOf : GoodIn wsX4_hasPair wsX1_lengthOf := goodIn_r _ [6, 7, 23, 24, 25] (by decide +kernel) (by decide +kernel)
set_option maxRecDepth 20000 in
theorem gX4_hasPair_X1_lengthOf : GoodIn wsX4_hasPair (wsV RX4 82 RX1 yX1_lengthOf wsX1_lengthOf) := goodIn_app (goodIn_of _ (by decide +kernel)) ggX4_hasPair_X1_lengthOf
set_option maxRecDepth 20000 in
theorem ggX4_hasPair_X1_codeAt : GoodIn wsX4_hasPair wsX1_codeAt := goodIn_r _ [11, 12, 23, 24, 25] (by decide +kernel) (by decide +kernel)
set_option maxRecDepth 20000 in
theorem gX4_hasPair_X1_codeAt : GoodIn wsX4_hasPair (wsV RX4 85 RX1 yX1_codeAt wsX1_codeAt) := goodIn_app (goodIn_of _ (by decide +kernel)) ggX4_hasPair_X1_codeAt
theorem dX4_hasPair_0 : decode cX4_hasPair 0 = .ok (.iconst 1, 1) := by decide +kernel
theorem dX4_hasPair_1 : decode cX4_hasPair 1 = .ok (.istore 4, 2) := by decide +kernel
theorem dX4_hasPair_3 : decode cX4_hasPair 3 = .ok (.iload 4, 2) := by decide +kernel
theorem dX4_hasPair_5 : decode cX4_hasPair 5 = .ok (.aload_n 0, 1) := by decide +kernel
theorem dX4_hasPair_6 : decode cX4_hasPair 6 = .ok (.getfield 12, 3) := by decide +kernel
theorem dX4_hasPair_9 : decode cX4_hasPair 9 = .ok (.iload_n 1, 1) := by decide +kernel
theorem dX4_hasPair_10 : decode cX4_hasPair 10 = .ok (.invokevirtual 82, 3) := by decide +kernel
theorem dX4_hasPair_13 : decode cX4_hasPair 13 = .ok (.if_icmp .ge 41, 3) := by decide +kernel
theorem dX4_hasPair_16 : decode cX4_hasPair 16 = .ok (.aload_n 0, 1) := by decide +kernel
theorem dX4_hasPair_17 : decode cX4_hasPair 17 = .ok (.getfield 12, 3) := by decide +kernel
theorem dX4_hasPair_20 : decode cX4_hasPair 20 = .ok (.iload_n 1, 1) := by decide +kernel
theorem dX4_hasPair_21 : decode cX4_hasPair 21 = .ok (.iload 4, 2) := by decide +kernel
theorem dX4_hasPair_23 : decode cX4_hasPair 23 = .ok (.iconst 1, 1) := by decide +kernel
theorem dX4_hasPair_24 : decode cX4_hasPair 24 = .ok (.isub, 1) := by decide +kernel
theorem dX4_hasPair_25 : decode cX4_hasPair 25 = .ok (.invokevirtual 85, 3) := by decide +kernel
theorem dX4_hasPair_28 : decode cX4_hasPair 28 = .ok (.iload_n 2, 1) := by decide +kernel
theorem dX4_hasPair_29 : decode cX4_hasPair 29 = .ok (.if_icmp .ne 19, 3) := by decide +kernel
theorem dX4_hasPair_32 : decode cX4_hasPair 32 = .ok (.aload_n 0, 1) := by decide +kernel
theorem dX4_hasPair_33 : decode cX4_hasPair 33 = .ok (.getfield 12, 3) := by decide +kernel
theorem dX4_hasPair_36 : decode cX4_hasPair 36 = .ok (.iload_n 1, 1) := by decide +kernel
theorem dX4_hasPair_37 : decode cX4_hasPair 37 = .ok (.iload 4, 2) := by decide +kernel
theorem dX4_hasPair_39 : decode cX4_hasPair 39 = .ok (.invokevirtual 85, 3) := by decide +kernel
theorem dX4_hasPair_42 : decode cX4_hasPair 42 = .ok (.iload_n 3, 1) := by decide +kernel
theorem dX4_hasPair_43 : decode cX4_hasPair 43 = .ok (.if_icmp .ne 5, 3) := by decide +kernel
theorem dX4_hasPair_46 : decode cX4_hasPair 46 = .ok (.iconst 1, 1) := by decide +kernel
theorem dX4_hasPair_47 : decode cX4_hasPair 47 = .ok (.ireturn, 1) := by decide +kernel
theorem dX4_hasPair_48 : decode cX4_hasPair 48 = .ok (.iinc 4 1, 3) := by decide +kernel
theorem dX4_hasPair_51 : decode cX4_hasPair 51 = .ok (.goto (-48), 3) := by decide +kernel
theorem dX4_hasPair_54 : decode cX4_hasPair 54 = .ok (.iconst 0, 1) := by decide +kernel
theorem dX4_hasPair_55 : decode cX4_hasPair 55 = .ok (.ireturn, 1) := by decide +kernel
set_option maxRecDepth 20000 in
theorem ggX4_adjustmentOf_X2_placeOf : GoodIn wsX4_adjustmentOf wsX2_placeOf := goodIn_r _ [6, 7, 8, 9, 25, 26, 27, 28] (by decide +kernel) (by decide +kernel)
set_option maxRecDepth 20000 in
theorem gX4_adjustmentOf_X2_placeOf : GoodIn wsX4_adjustmentOf (wsV RX4 89 RX2 yX2_placeOf wsX2_placeOf) := goodIn_app (goodIn_of _ (by decide +kernel)) ggX4_adjustmentOf_X2_placeOf
set_option maxRecDepth 20000 in
theorem ggX4_adjustmentOf_X2_adjustmentAt : GoodIn wsX4_adjustmentOf wsX2_adjustmentAt := goodIn_r _ [13, 7, 14, 25, 26, 27, 28] (by decide +kernel) (by decide +kernel)
set_option maxRecDepth 20000 in
theorem gX4_adjustmentOf_X2_adjustmentAt : GoodIn wsX4_adjustmentOf (wsV RX4 93 RX2 yX2_adjustmentAt wsX2_adjustmentAt) := goodIn_app (goodIn_of _ (by decide +kernel)) ggX4_adjustmentOf_X2_adjustmentAt
theorem dX4_adjustmentOf_0 : decode cX4_adjustmentOf 0 = .ok (.aload_n 0, 1) := by decide +kernel
theorem dX4_adjustmentOf_1 : decode cX4_adjustmentOf 1 = .ok (.getfield 21, 3) := by decide +kernel
theorem dX4_adjustmentOf_4 : decode cX4_adjustmentOf 4 = .ok (.aload_n 0, 1) := by decide +kernel
theorem dX4_adjustmentOf_5 : decode cX4_adjustmentOf 5 = .ok (.getfield 21, 3) := by decide +kernel
theorem dX4_adjustmentOf_8 : decode cX4_adjustmentOf 8 = .ok (.iload_n 1, 1) := by decide +kernel
theorem dX4_adjustmentOf_9 : decode cX4_adjustmentOf 9 = .ok (.iload_n 2, 1) := by decide +kernel
theorem dX4_adjustmentOf_10 : decode cX4_adjustmentOf 10 = .ok (.invokevirtual 89, 3) := by decide +kernel
theorem dX4_adjustmentOf_13 : decode cX4_adjustmentOf 13 = .ok (.invokevirtual 93, 3) := by decide +kernel
theorem dX4_adjustmentOf_16 : decode cX4_adjustmentOf 16 = .ok (.ireturn, 1) := by decide +kernel
set_option maxRecDepth 20000 in
theorem ggX4_spaceBehind_X1_lengthOf : GoodIn wsX4_spaceBehind wsX1_lengthOf := goodIn_r _ [11, 12, 45, 46, 47] (by decide +kernel) (by decide +kernel)
set_option maxRecDepth 20000 in
theorem gX4_spaceBehind_X1_lengthOf : GoodIn wsX4_spaceBehind (wsV RX4 82 RX1 yX1_lengthOf wsX1_lengthOf) := goodIn_app (goodIn_of _ (by decide +kernel)) ggX4_spaceBehind_X1_lengthOf
set_option maxRecDepth 20000 in
theorem ggX4_spaceBehind_X1_codeAt : GoodIn wsX4_spaceBehind wsX1_codeAt := goodIn_r _ [16, 17, 45, 46, 47] (by decide +kernel) (by decide +kernel)
set_option maxRecDepth 20000 in
theorem gX4_spaceBehind_X1_codeAt : GoodIn wsX4_spaceBehind (wsV RX4 85 RX1 yX1_codeAt wsX1_codeAt) := goodIn_app (goodIn_of _ (by decide +kernel)) ggX4_spaceBehind_X1_codeAt
set_option maxRecDepth 20000 in
theorem ggX4_spaceBehind_X2_placeOf : GoodIn wsX4_spaceBehind wsX2_placeOf := goodIn_r _ [22, 23, 24, 25, 48, 49, 50, 51] (by decide +kernel) (by decide +kernel)
set_option maxRecDepth 20000 in
theorem gX4_spaceBehind_X2_placeOf : GoodIn wsX4_spaceBehind (wsV RX4 89 RX2 yX2_placeOf wsX2_placeOf) := goodIn_app (goodIn_of _ (by decide +kernel)) ggX4_spaceBehind_X2_placeOf
set_option maxRecDepth 20000 in
theorem ggX4_spaceBehind_X2_adjustmentAt : GoodIn wsX4_spaceBehind wsX2_adjustmentAt := goodIn_r _ [29, 23, 30, 48, 49, 50, 51] (by decide +kernel) (by decide +kernel)
set_option maxRecDepth 20000 in
theorem gX4_spaceBehind_X2_adjustmentAt : GoodIn wsX4_spaceBehind (wsV RX4 93 RX2 yX2_adjustmentAt wsX2_adjustmentAt) := goodIn_app (goodIn_of _ (by decide +kernel)) ggX4_spaceBehind_X2_adjustmentAt
set_option maxRecDepth 20000 in
theorem ggX4_spaceBehind_X3_openness : GoodIn wsX4_spaceBehind wsX3_openness := goodIn_r _ [34] (by decide +kernel) (by decide +kernel)
set_option maxRecDepth 20000 in
theorem gX4_spaceBehind_X3_openness : GoodIn wsX4_spaceBehind (va_wsS RX4 96 yX3_openness wsX3_openness) := goodIn_app (goodIn_of _ (by decide +kernel)) ggX4_spaceBehind_X3_openness
theorem dX4_spaceBehind_0 : decode cX4_spaceBehind 0 = .ok (.iload_n 2, 1) := by decide +kernel
theorem dX4_spaceBehind_1 : decode cX4_spaceBehind 1 = .ok (.iconst 1, 1) := by decide +kernel
theorem dX4_spaceBehind_2 : decode cX4_spaceBehind 2 = .ok (.iadd, 1) := by decide +kernel
theorem dX4_spaceBehind_3 : decode cX4_spaceBehind 3 = .ok (.aload_n 0, 1) := by decide +kernel
theorem dX4_spaceBehind_4 : decode cX4_spaceBehind 4 = .ok (.getfield 12, 3) := by decide +kernel
theorem dX4_spaceBehind_7 : decode cX4_spaceBehind 7 = .ok (.iload_n 1, 1) := by decide +kernel
theorem dX4_spaceBehind_8 : decode cX4_spaceBehind 8 = .ok (.invokevirtual 82, 3) := by decide +kernel
theorem dX4_spaceBehind_11 : decode cX4_spaceBehind 11 = .ok (.if_icmp .lt 5, 3) := by decide +kernel
theorem dX4_spaceBehind_14 : decode cX4_spaceBehind 14 = .ok (.iconst 0, 1) := by decide +kernel
theorem dX4_spaceBehind_15 : decode cX4_spaceBehind 15 = .ok (.ireturn, 1) := by decide +kernel
theorem dX4_spaceBehind_16 : decode cX4_spaceBehind 16 = .ok (.aload_n 0, 1) := by decide +kernel
theorem dX4_spaceBehind_17 : decode cX4_spaceBehind 17 = .ok (.getfield 12, 3) := by decide +kernel
theorem dX4_spaceBehind_20 : decode cX4_spaceBehind 20 = .ok (.iload_n 1, 1) := by decide +kernel
theorem dX4_spaceBehind_21 : decode cX4_spaceBehind 21 = .ok (.iload_n 2, 1) := by decide +kernel
theorem dX4_spaceBehind_22 : decode cX4_spaceBehind 22 = .ok (.invokevirtual 85, 3) := by decide +kernel
theorem dX4_spaceBehind_25 : decode cX4_spaceBehind 25 = .ok (.istore_n 3, 1) := by decide +kernel
theorem dX4_spaceBehind_26 : decode cX4_spaceBehind 26 = .ok (.aload_n 0, 1) := by decide +kernel
theorem dX4_spaceBehind_27 : decode cX4_spaceBehind 27 = .ok (.getfield 12, 3) := by decide +kernel
theorem dX4_spaceBehind_30 : decode cX4_spaceBehind 30 = .ok (.iload_n 1, 1) := by decide +kernel
theorem dX4_spaceBehind_31 : decode cX4_spaceBehind 31 = .ok (.iload_n 2, 1) := by decide +kernel
theorem dX4_spaceBehind_32 : decode cX4_spaceBehind 32 = .ok (.iconst 1, 1) := by decide +kernel
theorem dX4_spaceBehind_33 : decode cX4_spaceBehind 33 = .ok (.iadd, 1) := by decide +kernel
theorem dX4_spaceBehind_34 : decode cX4_spaceBehind 34 = .ok (.invokevirtual 85, 3) := by decide +kernel
theorem dX4_spaceBehind_37 : decode cX4_spaceBehind 37 = .ok (.istore 4, 2) := by decide +kernel
theorem dX4_spaceBehind_39 : decode cX4_spaceBehind 39 = .ok (.aload_n 0, 1) := by decide +kernel
theorem dX4_spaceBehind_40 : decode cX4_spaceBehind 40 = .ok (.getfield 21, 3) := by decide +kernel
theorem dX4_spaceBehind_43 : decode cX4_spaceBehind 43 = .ok (.aload_n 0, 1) := by decide +kernel
theorem dX4_spaceBehind_44 : decode cX4_spaceBehind 44 = .ok (.getfield 21, 3) := by decide +kernel
theorem dX4_spaceBehind_47 : decode cX4_spaceBehind 47 = .ok (.iload_n 3, 1) := by decide +kernel
theorem dX4_spaceBehind_48 : decode cX4_spaceBehind 48 = .ok (.iload 4, 2) := by decide +kernel
theorem dX4_spaceBehind_50 : decode cX4_spaceBehind 50 = .ok (.invokevirtual 89, 3) := by decide +kernel
theorem dX4_spaceBehind_53 : decode cX4_spaceBehind 53 = .ok (.invokevirtual 93, 3) := by decide +kernel
theorem dX4_spaceBehind_56 : decode cX4_spaceBehind 56 = .ok (.istore 5, 2) := by decide +kernel
theorem dX4_spaceBehind_58 : decode cX4_spaceBehind 58 = .ok (.iconst 1, 1) := by decide +kernel
theorem dX4_spaceBehind_59 : decode cX4_spaceBehind 59 = .ok (.bipush 6, 2) := by decide +kernel
theorem dX4_spaceBehind_61 : decode cX4_spaceBehind 61 = .ok (.iload_n 3, 1) := by decide +kernel
theorem dX4_spaceBehind_62 : decode cX4_spaceBehind 62 = .ok (.invokestatic 96, 3) := by decide +kernel
theorem dX4_spaceBehind_65 : decode cX4_spaceBehind 65 = .ok (.isub, 1) := by decide +kernel
theorem dX4_spaceBehind_66 : decode cX4_spaceBehind 66 = .ok (.iload 4, 2) := by decide +kernel
theorem dX4_spaceBehind_68 : decode cX4_spaceBehind 68 = .ok (.invokestatic 96, 3) := by decide +kernel
theorem dX4_spaceBehind_71 : decode cX4_spaceBehind 71 = .ok (.isub, 1) := by decide +kernel
theorem dX4_spaceBehind_72 : decode cX4_spaceBehind 72 = .ok (.iload 5, 2) := by decide +kernel
theorem dX4_spaceBehind_74 : decode cX4_spaceBehind 74 = .ok (.iadd, 1) := by decide +kernel
theorem dX4_spaceBehind_75 : decode cX4_spaceBehind 75 = .ok (.invokestatic 102, 3) := by decide +kernel
theorem dX4_spaceBehind_78 : decode cX4_spaceBehind 78 = .ok (.ireturn, 1) := by decide +kernel
set_option maxRecDepth 20000 in
theorem ggX4_measuredSpace_X4_spaceBehind : GoodIn wsX4_measuredSpace wsX4_spaceBehind := goodIn_r _ [6, 1, 7, 8, 9, 10, 11, 12, 13, 14, 15, 16, 17, 18, 19, 20, 21, 22, 23, 24, 25, 26, 27, 28, 29, 30, 31, 32, 33, 34, 35, 36, 37, 38, 39, 40, 41, 42, 43, 44, 45, 46, 47, 48, 49, 50, 51, 52, 53, 54, 55, 56] (by decide +kernel) (by decide +kernel)
set_option maxRecDepth 20000 in
theorem gX4_measuredSpace_X4_spaceBehind : GoodIn wsX4_measuredSpace (wsV RX4 108 RX4 yX4_spaceBehind wsX4_spaceBehind) := goodIn_app (goodIn_of _ (by decide +kernel)) ggX4_measuredSpace_X4_spaceBehind
set_option maxRecDepth 20000 in
theorem ggX4_measuredSpace_X1_codeAt : GoodIn wsX4_measuredSpace wsX1_codeAt := goodIn_r _ [21, 22, 50, 51, 52] (by decide +kernel) (by decide +kernel)
set_option maxRecDepth 20000 in
theorem gX4_measuredSpace_X1_codeAt : GoodIn wsX4_measuredSpace (wsV RX4 85 RX1 yX1_codeAt wsX1_codeAt) := goodIn_app (goodIn_of _ (by decide +kernel)) ggX4_measuredSpace_X1_codeAt
set_option maxRecDepth 20000 in
theorem ggX4_measuredSpace_X3_openness : GoodIn wsX4_measuredSpace wsX3_openness := goodIn_r _ [39] (by decide +kernel) (by decide +kernel)
set_option maxRecDepth 20000 in
theorem gX4_measuredSpace_X3_openness : GoodIn wsX4_measuredSpace (va_wsS RX4 96 yX3_openness wsX3_openness) := goodIn_app (goodIn_of _ (by decide +kernel)) ggX4_measuredSpace_X3_openness
theorem dX4_measuredSpace_0 : decode cX4_measuredSpace 0 = .ok (.aload_n 0, 1) := by decide +kernel
theorem dX4_measuredSpace_1 : decode cX4_measuredSpace 1 = .ok (.iload_n 1, 1) := by decide +kernel
theorem dX4_measuredSpace_2 : decode cX4_measuredSpace 2 = .ok (.iload_n 2, 1) := by decide +kernel
theorem dX4_measuredSpace_3 : decode cX4_measuredSpace 3 = .ok (.invokevirtual 108, 3) := by decide +kernel
theorem dX4_measuredSpace_6 : decode cX4_measuredSpace 6 = .ok (.aload_n 0, 1) := by decide +kernel
theorem dX4_measuredSpace_7 : decode cX4_measuredSpace 7 = .ok (.getfield 12, 3) := by decide +kernel
theorem dX4_measuredSpace_10 : decode cX4_measuredSpace 10 = .ok (.iload_n 1, 1) := by decide +kernel
theorem dX4_measuredSpace_11 : decode cX4_measuredSpace 11 = .ok (.iload_n 2, 1) := by decide +kernel
theorem dX4_measuredSpace_12 : decode cX4_measuredSpace 12 = .ok (.invokevirtual 85, 3) := by decide +kernel
theorem dX4_measuredSpace_15 : decode cX4_measuredSpace 15 = .ok (.invokestatic 96, 3) := by decide +kernel
theorem dX4_measuredSpace_18 : decode cX4_measuredSpace 18 = .ok (.iadd, 1) := by decide +kernel
theorem dX4_measuredSpace_19 : decode cX4_measuredSpace 19 = .ok (.aload_n 0, 1) := by decide +kernel
theorem dX4_measuredSpace_20 : decode cX4_measuredSpace 20 = .ok (.getfield 12, 3) := by decide +kernel
theorem dX4_measuredSpace_23 : decode cX4_measuredSpace 23 = .ok (.iload_n 1, 1) := by decide +kernel
theorem dX4_measuredSpace_24 : decode cX4_measuredSpace 24 = .ok (.iload_n 2, 1) := by decide +kernel
theorem dX4_measuredSpace_25 : decode cX4_measuredSpace 25 = .ok (.iconst 1, 1) := by decide +kernel
theorem dX4_measuredSpace_26 : decode cX4_measuredSpace 26 = .ok (.iadd, 1) := by decide +kernel
theorem dX4_measuredSpace_27 : decode cX4_measuredSpace 27 = .ok (.invokevirtual 85, 3) := by decide +kernel
theorem dX4_measuredSpace_30 : decode cX4_measuredSpace 30 = .ok (.invokestatic 96, 3) := by decide +kernel
theorem dX4_measuredSpace_33 : decode cX4_measuredSpace 33 = .ok (.iadd, 1) := by decide +kernel
theorem dX4_measuredSpace_34 : decode cX4_measuredSpace 34 = .ok (.ireturn, 1) := by decide +kernel
set_option maxRecDepth 20000 in
theorem ggX4_unitsBefore_X1_codeAt : GoodIn wsX4_unitsBefore wsX1_codeAt := goodIn_r _ [6, 7, 53, 54, 55] (by decide +kernel) (by decide +kernel)
set_option maxRecDepth 20000 in
theorem gX4_unitsBefore_X1_codeAt : GoodIn wsX4_unitsBefore (wsV RX4 85 RX1 yX1_codeAt wsX1_codeAt) := goodIn_app (goodIn_of _ (by decide +kernel)) ggX4_unitsBefore_X1_codeAt
set_option maxRecDepth 20000 in
theorem ggX4_unitsBefore_X3_width : GoodIn wsX4_unitsBefore wsX3_width := goodIn_r _ [11] (by decide +kernel) (by decide +kernel)
set_option maxRecDepth 20000 in
theorem gX4_unitsBefore_X3_width : GoodIn wsX4_unitsBefore (va_wsS RX4 111 yX3_width wsX3_width) := goodIn_app (goodIn_of _ (by decide +kernel)) ggX4_unitsBefore_X3_width
set_option maxRecDepth 20000 in
theorem ggX4_unitsBefore_X4_spaceBehind : GoodIn wsX4_unitsBefore wsX4_spaceBehind := goodIn_r _ [16, 1, 17, 18, 19, 20, 21, 22, 23, 24, 5, 25, 26, 2, 3, 4, 6, 7, 27, 28, 29, 30, 31, 32, 33, 34, 35, 36, 37, 38, 39, 40, 41, 10, 42, 43, 44, 45, 46, 47, 48, 49, 50, 51, 52, 53, 54, 55, 56, 57, 58, 59] (by decide +kernel) (by decide +kernel)
set_option maxRecDepth 20000 in
theorem gX4_unitsBefore_X4_spaceBehind : GoodIn wsX4_unitsBefore (wsV RX4 108 RX4 yX4_spaceBehind wsX4_spaceBehind) := goodIn_app (goodIn_of _ (by decide +kernel)) ggX4_unitsBefore_X4_spaceBehind
theorem dX4_unitsBefore_0 : decode cX4_unitsBefore 0 = .ok (.iconst 0, 1) := by decide +kernel
theorem dX4_unitsBefore_1 : decode cX4_unitsBefore 1 = .ok (.istore_n 3, 1) := by decide +kernel
theorem dX4_unitsBefore_2 : decode cX4_unitsBefore 2 = .ok (.iconst 0, 1) := by decide +kernel
theorem dX4_unitsBefore_3 : decode cX4_unitsBefore 3 = .ok (.istore 4, 2) := by decide +kernel
theorem dX4_unitsBefore_5 : decode cX4_unitsBefore 5 = .ok (.iload 4, 2) := by decide +kernel
theorem dX4_unitsBefore_7 : decode cX4_unitsBefore 7 = .ok (.iload_n 2, 1) := by decide +kernel
theorem dX4_unitsBefore_8 : decode cX4_unitsBefore 8 = .ok (.if_icmp .ge 40, 3) := by decide +kernel
theorem dX4_unitsBefore_11 : decode cX4_unitsBefore 11 = .ok (.iload 4, 2) := by decide +kernel
theorem dX4_unitsBefore_13 : decode cX4_unitsBefore 13 = .ok (.bipush 16, 2) := by decide +kernel
theorem dX4_unitsBefore_15 : decode cX4_unitsBefore 15 = .ok (.if_icmp .ge 33, 3) := by decide +kernel
theorem dX4_unitsBefore_18 : decode cX4_unitsBefore 18 = .ok (.iload_n 3, 1) := by decide +kernel
theorem dX4_unitsBefore_19 : decode cX4_unitsBefore 19 = .ok (.aload_n 0, 1) := by decide +kernel
theorem dX4_unitsBefore_20 : decode cX4_unitsBefore 20 = .ok (.getfield 12, 3) := by decide +kernel
theorem dX4_unitsBefore_23 : decode cX4_unitsBefore 23 = .ok (.iload_n 1, 1) := by decide +kernel
theorem dX4_unitsBefore_24 : decode cX4_unitsBefore 24 = .ok (.iload 4, 2) := by decide +kernel
theorem dX4_unitsBefore_26 : decode cX4_unitsBefore 26 = .ok (.invokevirtual 85, 3) := by decide +kernel
theorem dX4_unitsBefore_29 : decode cX4_unitsBefore 29 = .ok (.invokestatic 111, 3) := by decide +kernel
theorem dX4_unitsBefore_32 : decode cX4_unitsBefore 32 = .ok (.aload_n 0, 1) := by decide +kernel
theorem dX4_unitsBefore_33 : decode cX4_unitsBefore 33 = .ok (.iload_n 1, 1) := by decide +kernel
theorem dX4_unitsBefore_34 : decode cX4_unitsBefore 34 = .ok (.iload 4, 2) := by decide +kernel
theorem dX4_unitsBefore_36 : decode cX4_unitsBefore 36 = .ok (.invokevirtual 108, 3) := by decide +kernel
theorem dX4_unitsBefore_39 : decode cX4_unitsBefore 39 = .ok (.iadd, 1) := by decide +kernel
theorem dX4_unitsBefore_40 : decode cX4_unitsBefore 40 = .ok (.iadd, 1) := by decide +kernel
theorem dX4_unitsBefore_41 : decode cX4_unitsBefore 41 = .ok (.istore_n 3, 1) := by decide +kernel
theorem dX4_unitsBefore_42 : decode cX4_unitsBefore 42 = .ok (.iinc 4 1, 3) := by decide +kernel
theorem dX4_unitsBefore_45 : decode cX4_unitsBefore 45 = .ok (.goto (-40), 3) := by decide +kernel
theorem dX4_unitsBefore_48 : decode cX4_unitsBefore 48 = .ok (.iload_n 3, 1) := by decide +kernel
theorem dX4_unitsBefore_49 : decode cX4_unitsBefore 49 = .ok (.ireturn, 1) := by decide +kernel
set_option maxRecDepth 20000 in
theorem ggX4_unitsOf_X1_lengthOf : GoodIn wsX4_unitsOf wsX1_lengthOf := goodIn_r _ [6, 7, 57, 58, 59] (by decide +kernel) (by decide +kernel)
set_option maxRecDepth 20000 in
theorem gX4_unitsOf_X1_lengthOf : GoodIn wsX4_unitsOf (wsV RX4 82 RX1 yX1_lengthOf wsX1_lengthOf) := goodIn_app (goodIn_of _ (by decide +kernel)) ggX4_unitsOf_X1_lengthOf
set_option maxRecDepth 20000 in
theorem ggX4_unitsOf_X4_unitsBefore : GoodIn wsX4_unitsOf wsX4_unitsBefore := goodIn_r _ [12, 1, 13, 14, 15, 5, 16, 17, 18, 19, 20, 21, 22, 23, 24, 11, 25, 26, 27, 28, 29, 30, 2, 3, 4, 6, 7, 31, 32, 33, 34, 35, 36, 37, 38, 39, 40, 41, 42, 43, 44, 45, 46, 47, 48, 49, 50, 51, 52, 53, 54, 55, 56, 57, 58, 59, 60, 61, 62, 63] (by decide +kernel) (by decide +kernel)
set_option maxRecDepth 20000 in
theorem gX4_unitsOf_X4_unitsBefore : GoodIn wsX4_unitsOf (wsV RX4 113 RX4 yX4_unitsBefore wsX4_unitsBefore) := goodIn_app (goodIn_of _ (by decide +kernel)) ggX4_unitsOf_X4_unitsBefore
theorem dX4_unitsOf_0 : decode cX4_unitsOf 0 = .ok (.aload_n 0, 1) := by decide +kernel
theorem dX4_unitsOf_1 : decode cX4_unitsOf 1 = .ok (.iload_n 1, 1) := by decide +kernel
theorem dX4_unitsOf_2 : decode cX4_unitsOf 2 = .ok (.aload_n 0, 1) := by decide +kernel
theorem dX4_unitsOf_3 : decode cX4_unitsOf 3 = .ok (.getfield 12, 3) := by decide +kernel
theorem dX4_unitsOf_6 : decode cX4_unitsOf 6 = .ok (.iload_n 1, 1) := by decide +kernel
theorem dX4_unitsOf_7 : decode cX4_unitsOf 7 = .ok (.invokevirtual 82, 3) := by decide +kernel
theorem dX4_unitsOf_10 : decode cX4_unitsOf 10 = .ok (.invokevirtual 113, 3) := by decide +kernel
theorem dX4_unitsOf_13 : decode cX4_unitsOf 13 = .ok (.ireturn, 1) := by decide +kernel
set_option maxRecDepth 20000 in
theorem ggX4_inkOf_X1_lengthOf : GoodIn wsX4_inkOf wsX1_lengthOf := goodIn_r _ [6, 7, 27, 28, 29] (by decide +kernel) (by decide +kernel)
set_option maxRecDepth 20000 in
theorem gX4_inkOf_X1_lengthOf : GoodIn wsX4_inkOf (wsV RX4 82 RX1 yX1_lengthOf wsX1_lengthOf) := goodIn_app (goodIn_of _ (by decide +kernel)) ggX4_inkOf_X1_lengthOf
set_option maxRecDepth 20000 in
theorem ggX4_inkOf_X1_codeAt : GoodIn wsX4_inkOf wsX1_codeAt := goodIn_r _ [11, 12, 27, 28, 29] (by decide +kernel) (by decide +kernel)
set_option maxRecDepth 20000 in
theorem gX4_inkOf_X1_codeAt : GoodIn wsX4_inkOf (wsV RX4 85 RX1 yX1_codeAt wsX1_codeAt) := goodIn_app (goodIn_of _ (by decide +kernel)) ggX4_inkOf_X1_codeAt
set_option maxRecDepth 20000 in
theorem ggX4_inkOf_X3_ink : GoodIn wsX4_inkOf wsX3_ink := goodIn_r _ [16] (by decide +kernel) (by decide +kernel)
set_option maxRecDepth 20000 in
theorem gX4_inkOf_X3_ink : GoodIn wsX4_inkOf (va_wsS RX4 116 yX3_ink wsX3_ink) := goodIn_app (goodIn_of _ (by decide +kernel)) ggX4_inkOf_X3_ink
theorem dX4_inkOf_0 : decode cX4_inkOf 0 = .ok (.iconst 0, 1) := by decide +kernel
theorem dX4_inkOf_1 : decode cX4_inkOf 1 = .ok (.istore_n 2, 1) := by decide +kernel
theorem dX4_inkOf_2 : decode cX4_inkOf 2 = .ok (.iconst 0, 1) := by decide +kernel
theorem dX4_inkOf_3 : decode cX4_inkOf 3 = .ok (.istore_n 3, 1) := by decide +kernel
theorem dX4_inkOf_4 : decode cX4_inkOf 4 = .ok (.iload_n 3, 1) := by decide +kernel
theorem dX4_inkOf_5 : decode cX4_inkOf 5 = .ok (.aload_n 0, 1) := by decide +kernel
theorem dX4_inkOf_6 : decode cX4_inkOf 6 = .ok (.getfield 12, 3) := by decide +kernel
theorem dX4_inkOf_9 : decode cX4_inkOf 9 = .ok (.iload_n 1, 1) := by decide +kernel
theorem dX4_inkOf_10 : decode cX4_inkOf 10 = .ok (.invokevirtual 82, 3) := by decide +kernel
theorem dX4_inkOf_13 : decode cX4_inkOf 13 = .ok (.if_icmp .ge 24, 3) := by decide +kernel
theorem dX4_inkOf_16 : decode cX4_inkOf 16 = .ok (.iload_n 2, 1) := by decide +kernel
theorem dX4_inkOf_17 : decode cX4_inkOf 17 = .ok (.aload_n 0, 1) := by decide +kernel
theorem dX4_inkOf_18 : decode cX4_inkOf 18 = .ok (.getfield 12, 3) := by decide +kernel
theorem dX4_inkOf_21 : decode cX4_inkOf 21 = .ok (.iload_n 1, 1) := by decide +kernel
theorem dX4_inkOf_22 : decode cX4_inkOf 22 = .ok (.iload_n 3, 1) := by decide +kernel
theorem dX4_inkOf_23 : decode cX4_inkOf 23 = .ok (.invokevirtual 85, 3) := by decide +kernel
theorem dX4_inkOf_26 : decode cX4_inkOf 26 = .ok (.invokestatic 116, 3) := by decide +kernel
theorem dX4_inkOf_29 : decode cX4_inkOf 29 = .ok (.iadd, 1) := by decide +kernel
theorem dX4_inkOf_30 : decode cX4_inkOf 30 = .ok (.istore_n 2, 1) := by decide +kernel
theorem dX4_inkOf_31 : decode cX4_inkOf 31 = .ok (.iinc 3 1, 3) := by decide +kernel
theorem dX4_inkOf_34 : decode cX4_inkOf 34 = .ok (.goto (-30), 3) := by decide +kernel
theorem dX4_inkOf_37 : decode cX4_inkOf 37 = .ok (.iload_n 2, 1) := by decide +kernel
theorem dX4_inkOf_38 : decode cX4_inkOf 38 = .ok (.ireturn, 1) := by decide +kernel
set_option maxRecDepth 20000 in
theorem ggX4_mostUnits_X4_unitsOf : GoodIn wsX4_mostUnits wsX4_unitsOf := goodIn_r _ [10, 1, 11, 12, 13, 14, 15, 16, 17, 18, 19, 9, 20, 21, 22, 23, 24, 25, 26, 27, 28, 29, 30, 31, 32, 33, 34, 2, 3, 4, 5, 35, 36, 37, 38, 39, 40, 41, 42, 43, 44, 45, 46, 47, 48, 49, 50, 51, 52, 53, 54, 55, 56, 57, 58, 59, 60, 61, 62, 63, 64, 65, 66, 67] (by decide +kernel) (by decide +kernel)
set_option maxRecDepth 20000 in
theorem gX4_mostUnits_X4_unitsOf : GoodIn wsX4_mostUnits (wsV RX4 119 RX4 yX4_unitsOf wsX4_unitsOf) := goodIn_app (goodIn_of _ (by decide +kernel)) ggX4_mostUnits_X4_unitsOf
theorem dX4_mostUnits_0 : decode cX4_mostUnits 0 = .ok (.iconst 0, 1) := by decide +kernel
theorem dX4_mostUnits_1 : decode cX4_mostUnits 1 = .ok (.istore_n 2, 1) := by decide +kernel
theorem dX4_mostUnits_2 : decode cX4_mostUnits 2 = .ok (.iconst 0, 1) := by decide +kernel
theorem dX4_mostUnits_3 : decode cX4_mostUnits 3 = .ok (.istore_n 3, 1) := by decide +kernel
theorem dX4_mostUnits_4 : decode cX4_mostUnits 4 = .ok (.iload_n 3, 1) := by decide +kernel
theorem dX4_mostUnits_5 : decode cX4_mostUnits 5 = .ok (.aload_n 0, 1) := by decide +kernel
theorem dX4_mostUnits_6 : decode cX4_mostUnits 6 = .ok (.getfield 12, 3) := by decide +kernel
theorem dX4_mostUnits_9 : decode cX4_mostUnits 9 = .ok (.getfield 67, 3) := by decide +kernel
theorem dX4_mostUnits_12 : decode cX4_mostUnits 12 = .ok (.if_icmp .ge 24, 3) := by decide +kernel
theorem dX4_mostUnits_15 : decode cX4_mostUnits 15 = .ok (.iload_n 3, 1) := by decide +kernel
theorem dX4_mostUnits_16 : decode cX4_mostUnits 16 = .ok (.iload_n 1, 1) := by decide +kernel
theorem dX4_mostUnits_17 : decode cX4_mostUnits 17 = .ok (.if_icmp .eq 13, 3) := by decide +kernel
theorem dX4_mostUnits_20 : decode cX4_mostUnits 20 = .ok (.iload_n 2, 1) := by decide +kernel
theorem dX4_mostUnits_21 : decode cX4_mostUnits 21 = .ok (.aload_n 0, 1) := by decide +kernel
theorem dX4_mostUnits_22 : decode cX4_mostUnits 22 = .ok (.iload_n 3, 1) := by decide +kernel
theorem dX4_mostUnits_23 : decode cX4_mostUnits 23 = .ok (.invokevirtual 119, 3) := by decide +kernel
theorem dX4_mostUnits_26 : decode cX4_mostUnits 26 = .ok (.invokestatic 102, 3) := by decide +kernel
theorem dX4_mostUnits_29 : decode cX4_mostUnits 29 = .ok (.istore_n 2, 1) := by decide +kernel
theorem dX4_mostUnits_30 : decode cX4_mostUnits 30 = .ok (.iinc 3 1, 3) := by decide +kernel
theorem dX4_mostUnits_33 : decode cX4_mostUnits 33 = .ok (.goto (-29), 3) := by decide +kernel
theorem dX4_mostUnits_36 : decode cX4_mostUnits 36 = .ok (.iload_n 2, 1) := by decide +kernel
theorem dX4_mostUnits_37 : decode cX4_mostUnits 37 = .ok (.ireturn, 1) := by decide +kernel
set_option maxRecDepth 20000 in
theorem ggX4_rowOf_X4_quotient : GoodIn wsX4_rowOf wsX4_quotient := goodIn_r _ [5, 6, 7, 8, 9] (by decide +kernel) (by decide +kernel)
set_option maxRecDepth 20000 in
theorem gX4_rowOf_X4_quotient : GoodIn wsX4_rowOf (va_wsS RX4 122 yX4_quotient wsX4_quotient) := goodIn_app (goodIn_of _ (by decide +kernel)) ggX4_rowOf_X4_quotient
theorem dX4_rowOf_0 : decode cX4_rowOf 0 = .ok (.iload_n 1, 1) := by decide +kernel
theorem dX4_rowOf_1 : decode cX4_rowOf 1 = .ok (.aload_n 0, 1) := by decide +kernel
theorem dX4_rowOf_2 : decode cX4_rowOf 2 = .ok (.getfield 35, 3) := by decide +kernel
theorem dX4_rowOf_5 : decode cX4_rowOf 5 = .ok (.invokestatic 122, 3) := by decide +kernel
theorem dX4_rowOf_8 : decode cX4_rowOf 8 = .ok (.ireturn, 1) := by decide +kernel
theorem dX4_columnOf_0 : decode cX4_columnOf 0 = .ok (.aload_n 0, 1) := by decide +kernel
theorem dX4_columnOf_1 : decode cX4_columnOf 1 = .ok (.getfield 35, 3) := by decide +kernel
theorem dX4_columnOf_4 : decode cX4_columnOf 4 = .ok (.ifCond .le 12, 3) := by decide +kernel
theorem dX4_columnOf_7 : decode cX4_columnOf 7 = .ok (.iload_n 1, 1) := by decide +kernel
theorem dX4_columnOf_8 : decode cX4_columnOf 8 = .ok (.aload_n 0, 1) := by decide +kernel
theorem dX4_columnOf_9 : decode cX4_columnOf 9 = .ok (.getfield 35, 3) := by decide +kernel
theorem dX4_columnOf_12 : decode cX4_columnOf 12 = .ok (.irem, 1) := by decide +kernel
theorem dX4_columnOf_13 : decode cX4_columnOf 13 = .ok (.goto 4, 3) := by decide +kernel
theorem dX4_columnOf_16 : decode cX4_columnOf 16 = .ok (.iconst 0, 1) := by decide +kernel
theorem dX4_columnOf_17 : decode cX4_columnOf 17 = .ok (.ireturn, 1) := by decide +kernel
set_option maxRecDepth 20000 in
theorem ggX4_rowsFor_X4_quotient : GoodIn wsX4_rowsFor wsX4_quotient := goodIn_r _ [5, 6, 7, 8, 9] (by decide +kernel) (by decide +kernel)
set_option maxRecDepth 20000 in
theorem gX4_rowsFor_X4_quotient : GoodIn wsX4_rowsFor (va_wsS RX4 122 yX4_quotient wsX4_quotient) := goodIn_app (goodIn_of _ (by decide +kernel)) ggX4_rowsFor_X4_quotient
theorem dX4_rowsFor_0 : decode cX4_rowsFor 0 = .ok (.iload_n 1, 1) := by decide +kernel
theorem dX4_rowsFor_1 : decode cX4_rowsFor 1 = .ok (.aload_n 0, 1) := by decide +kernel
theorem dX4_rowsFor_2 : decode cX4_rowsFor 2 = .ok (.getfield 35, 3) := by decide +kernel
theorem dX4_rowsFor_5 : decode cX4_rowsFor 5 = .ok (.iadd, 1) := by decide +kernel
theorem dX4_rowsFor_6 : decode cX4_rowsFor 6 = .ok (.iconst 1, 1) := by decide +kernel
theorem dX4_rowsFor_7 : decode cX4_rowsFor 7 = .ok (.isub, 1) := by decide +kernel
theorem dX4_rowsFor_8 : decode cX4_rowsFor 8 = .ok (.aload_n 0, 1) := by decide +kernel
theorem dX4_rowsFor_9 : decode cX4_rowsFor 9 = .ok (.getfield 35, 3) := by decide +kernel
theorem dX4_rowsFor_12 : decode cX4_rowsFor 12 = .ok (.invokestatic 122, 3) := by decide +kernel
theorem dX4_rowsFor_15 : decode cX4_rowsFor 15 = .ok (.ireturn, 1) := by decide +kernel
set_option maxRecDepth 20000 in
theorem ggX4_rowBegin_X4_rowOf : GoodIn wsX4_rowBegin wsX4_rowOf := goodIn_r _ [6, 7, 8, 9, 5, 10, 11, 12, 13, 14, 15, 16, 17, 18, 19, 20, 21, 22, 23, 24] (by decide +kernel) (by decide +kernel)
set_option maxRecDepth 20000 in
theorem gX4_rowBegin_X4_rowOf : GoodIn wsX4_rowBegin (wsV RX4 125 RX4 yX4_rowOf wsX4_rowOf) := goodIn_app (goodIn_of _ (by decide +kernel)) ggX4_rowBegin_X4_rowOf
theorem dX4_rowBegin_0 : decode cX4_rowBegin 0 = .ok (.aload_n 0, 1) := by decide +kernel
theorem dX4_rowBegin_1 : decode cX4_rowBegin 1 = .ok (.getfield 32, 3) := by decide +kernel
theorem dX4_rowBegin_4 : decode cX4_rowBegin 4 = .ok (.bipush 12, 2) := by decide +kernel
theorem dX4_rowBegin_6 : decode cX4_rowBegin 6 = .ok (.iload_n 2, 1) := by decide +kernel
theorem dX4_rowBegin_7 : decode cX4_rowBegin 7 = .ok (.imul, 1) := by decide +kernel
theorem dX4_rowBegin_8 : decode cX4_rowBegin 8 = .ok (.aload_n 0, 1) := by decide +kernel
theorem dX4_rowBegin_9 : decode cX4_rowBegin 9 = .ok (.iload_n 1, 1) := by decide +kernel
theorem dX4_rowBegin_10 : decode cX4_rowBegin 10 = .ok (.invokevirtual 125, 3) := by decide +kernel
theorem dX4_rowBegin_13 : decode cX4_rowBegin 13 = .ok (.imul, 1) := by decide +kernel
theorem dX4_rowBegin_14 : decode cX4_rowBegin 14 = .ok (.iadd, 1) := by decide +kernel
theorem dX4_rowBegin_15 : decode cX4_rowBegin 15 = .ok (.ireturn, 1) := by decide +kernel
set_option maxRecDepth 20000 in
theorem ggX4_columnWidth_X4_quotient : GoodIn wsX4_columnWidth wsX4_quotient := goodIn_r _ [6, 7, 8, 9, 10] (by decide +kernel) (by decide +kernel)
set_option maxRecDepth 20000 in
theorem gX4_columnWidth_X4_quotient : GoodIn wsX4_columnWidth (va_wsS RX4 122 yX4_quotient wsX4_quotient) := goodIn_app (goodIn_of _ (by decide +kernel)) ggX4_columnWidth_X4_quotient
theorem dX4_columnWidth_0 : decode cX4_columnWidth 0 = .ok (.iload_n 1, 1) := by decide +kernel
theorem dX4_columnWidth_1 : decode cX4_columnWidth 1 = .ok (.iconst 2, 1) := by decide +kernel
theorem dX4_columnWidth_2 : decode cX4_columnWidth 2 = .ok (.aload_n 0, 1) := by decide +kernel
theorem dX4_columnWidth_3 : decode cX4_columnWidth 3 = .ok (.getfield 32, 3) := by decide +kernel
theorem dX4_columnWidth_6 : decode cX4_columnWidth 6 = .ok (.imul, 1) := by decide +kernel
theorem dX4_columnWidth_7 : decode cX4_columnWidth 7 = .ok (.isub, 1) := by decide +kernel
theorem dX4_columnWidth_8 : decode cX4_columnWidth 8 = .ok (.aload_n 0, 1) := by decide +kernel
theorem dX4_columnWidth_9 : decode cX4_columnWidth 9 = .ok (.getfield 35, 3) := by decide +kernel
theorem dX4_columnWidth_12 : decode cX4_columnWidth 12 = .ok (.invokestatic 122, 3) := by decide +kernel
theorem dX4_columnWidth_15 : decode cX4_columnWidth 15 = .ok (.ireturn, 1) := by decide +kernel
set_option maxRecDepth 20000 in
theorem ggX4_columnBegin_X4_columnOf : GoodIn wsX4_columnBegin wsX4_columnOf := goodIn_r _ [7, 8, 20, 21, 22, 23, 24, 25, 26, 27, 28, 29] (by decide +kernel) (by decide +kernel)
set_option maxRecDepth 20000 in
theorem gX4_columnBegin_X4_columnOf : GoodIn wsX4_columnBegin (wsV RX4 128 RX4 yX4_columnOf wsX4_columnOf) := goodIn_app (goodIn_of _ (by decide +kernel)) ggX4_columnBegin_X4_columnOf
set_option maxRecDepth 20000 in
theorem ggX4_columnBegin_X4_columnWidth : GoodIn wsX4_columnBegin wsX4_columnWidth := goodIn_r _ [12, 1, 8, 13, 14, 6, 15, 16, 17, 18, 19, 20, 21, 22, 23, 24, 25, 26, 27, 28, 29] (by decide +kernel) (by decide +kernel)
set_option maxRecDepth 20000 in
theorem gX4_columnBegin_X4_columnWidth : GoodIn wsX4_columnBegin (wsV RX4 131 RX4 yX4_columnWidth wsX4_columnWidth) := goodIn_app (goodIn_of _ (by decide +kernel)) ggX4_columnBegin_X4_columnWidth
theorem dX4_columnBegin_0 : decode cX4_columnBegin 0 = .ok (.aload_n 0, 1) := by decide +kernel
theorem dX4_columnBegin_1 : decode cX4_columnBegin 1 = .ok (.getfield 32, 3) := by decide +kernel
theorem dX4_columnBegin_4 : decode cX4_columnBegin 4 = .ok (.aload_n 0, 1) := by decide +kernel
theorem dX4_columnBegin_5 : decode cX4_columnBegin 5 = .ok (.iload_n 1, 1) := by decide +kernel
theorem dX4_columnBegin_6 : decode cX4_columnBegin 6 = .ok (.invokevirtual 128, 3) := by decide +kernel
theorem dX4_columnBegin_9 : decode cX4_columnBegin 9 = .ok (.aload_n 0, 1) := by decide +kernel
theorem dX4_columnBegin_10 : decode cX4_columnBegin 10 = .ok (.aload_n 0, 1) := by decide +kernel
theorem dX4_columnBegin_11 : decode cX4_columnBegin 11 = .ok (.getfield 25, 3) := by decide +kernel
theorem dX4_columnBegin_14 : decode cX4_columnBegin 14 = .ok (.invokevirtual 131, 3) := by decide +kernel
theorem dX4_columnBegin_17 : decode cX4_columnBegin 17 = .ok (.imul, 1) := by decide +kernel
theorem dX4_columnBegin_18 : decode cX4_columnBegin 18 = .ok (.iadd, 1) := by decide +kernel
theorem dX4_columnBegin_19 : decode cX4_columnBegin 19 = .ok (.ireturn, 1) := by decide +kernel
set_option maxRecDepth 20000 in
theorem ggX4_sizeNow_X4_hasEngraved : GoodIn wsX4_sizeNow wsX4_hasEngraved := goodIn_r _ [9, 10, 84, 85, 86, 87, 88, 89, 90, 91, 92, 93] (by decide +kernel) (by decide +kernel)
set_option maxRecDepth 20000 in
theorem gX4_sizeNow_X4_hasEngraved : GoodIn wsX4_sizeNow (wsV RX4 134 RX4 yX4_hasEngraved wsX4_hasEngraved) := goodIn_app (goodIn_of _ (by decide +kernel)) ggX4_sizeNow_X4_hasEngraved
set_option maxRecDepth 20000 in
theorem ggX4_sizeNow_X4_mostUnits : GoodIn wsX4_sizeNow wsX4_mostUnits := goodIn_r _ [14, 4, 15, 16, 17, 18, 19, 20, 21, 8, 22, 23, 24, 25, 26, 27, 28, 29, 30, 31, 32, 33, 34, 35, 36, 37, 38, 39, 40, 41, 42, 43, 44, 45, 46, 47, 48, 49, 50, 51, 52, 53, 54, 55, 56, 57, 58, 59, 60, 61, 62, 84, 85, 86, 87, 88, 89, 90, 91, 92, 93, 94, 95, 96, 97, 98, 99, 100] (by decide +kernel) (by decide +kernel)
set_option maxRecDepth 20000 in
theorem gX4_sizeNow_X4_mostUnits : GoodIn wsX4_sizeNow (wsV RX4 138 RX4 yX4_mostUnits wsX4_mostUnits) := goodIn_app (goodIn_of _ (by decide +kernel)) ggX4_sizeNow_X4_mostUnits
set_option maxRecDepth 20000 in
theorem ggX4_sizeNow_X4_greatestSize : GoodIn wsX4_sizeNow wsX4_greatestSize := goodIn_r _ [66, 67, 68, 69, 70, 8, 71, 72, 73, 74, 75, 76, 77, 78, 79, 80, 81, 82, 83, 84, 85, 86, 87, 88, 89, 90, 91, 92, 93] (by decide +kernel) (by decide +kernel)
set_option maxRecDepth 20000 in
theorem gX4_sizeNow_X4_greatestSize : GoodIn wsX4_sizeNow (wsV RX4 141 RX4 yX4_greatestSize wsX4_greatestSize) := goodIn_app (goodIn_of _ (by decide +kernel)) ggX4_sizeNow_X4_greatestSize
theorem dX4_sizeNow_0 : decode cX4_sizeNow 0 = .ok (.aload_n 0, 1) := by decide +kernel
theorem dX4_sizeNow_1 : decode cX4_sizeNow 1 = .ok (.invokevirtual 134, 3) := by decide +kernel
theorem dX4_sizeNow_4 : decode cX4_sizeNow 4 = .ok (.ifCond .eq 8, 3) := by decide +kernel
theorem dX4_sizeNow_7 : decode cX4_sizeNow 7 = .ok (.aload_n 0, 1) := by decide +kernel
theorem dX4_sizeNow_8 : decode cX4_sizeNow 8 = .ok (.getfield 41, 3) := by decide +kernel
theorem dX4_sizeNow_11 : decode cX4_sizeNow 11 = .ok (.ireturn, 1) := by decide +kernel
theorem dX4_sizeNow_12 : decode cX4_sizeNow 12 = .ok (.aload_n 0, 1) := by decide +kernel
theorem dX4_sizeNow_13 : decode cX4_sizeNow 13 = .ok (.aload_n 0, 1) := by decide +kernel
theorem dX4_sizeNow_14 : decode cX4_sizeNow 14 = .ok (.getfield 25, 3) := by decide +kernel
theorem dX4_sizeNow_17 : decode cX4_sizeNow 17 = .ok (.aload_n 0, 1) := by decide +kernel
theorem dX4_sizeNow_18 : decode cX4_sizeNow 18 = .ok (.getfield 29, 3) := by decide +kernel
theorem dX4_sizeNow_21 : decode cX4_sizeNow 21 = .ok (.aload_n 0, 1) := by decide +kernel
theorem dX4_sizeNow_22 : decode cX4_sizeNow 22 = .ok (.getfield 12, 3) := by decide +kernel
theorem dX4_sizeNow_25 : decode cX4_sizeNow 25 = .ok (.getfield 67, 3) := by decide +kernel
theorem dX4_sizeNow_28 : decode cX4_sizeNow 28 = .ok (.aload_n 0, 1) := by decide +kernel
theorem dX4_sizeNow_29 : decode cX4_sizeNow 29 = .ok (.iconst (-1), 1) := by decide +kernel
theorem dX4_sizeNow_30 : decode cX4_sizeNow 30 = .ok (.invokevirtual 138, 3) := by decide +kernel
theorem dX4_sizeNow_33 : decode cX4_sizeNow 33 = .ok (.invokevirtual 141, 3) := by decide +kernel
theorem dX4_sizeNow_36 : decode cX4_sizeNow 36 = .ok (.ireturn, 1) := by decide +kernel
set_option maxRecDepth 20000 in
theorem ggX4_greatestSize_X4_rowsFor : GoodIn wsX4_greatestSize wsX4_rowsFor := goodIn_r _ [6, 7, 8, 9, 5, 10, 11, 12, 13, 14, 19, 20, 21, 22, 23, 24, 25, 26, 27, 28] (by decide +kernel) (by decide +kernel)
set_option maxRecDepth 20000 in
theorem gX4_greatestSize_X4_rowsFor : GoodIn wsX4_greatestSize (wsV RX4 145 RX4 yX4_rowsFor wsX4_rowsFor) := goodIn_app (goodIn_of _ (by decide +kernel)) ggX4_greatestSize_X4_rowsFor
set_option maxRecDepth 20000 in
theorem ggX4_greatestSize_X4_columnWidth : GoodIn wsX4_greatestSize wsX4_columnWidth := goodIn_r _ [18, 1, 7, 8, 9, 5, 10, 11, 12, 13, 14, 19, 20, 21, 22, 23, 24, 25, 26, 27, 28] (by decide +kernel) (by decide +kernel)
set_option maxRecDepth 20000 in
theorem gX4_greatestSize_X4_columnWidth : GoodIn wsX4_greatestSize (wsV RX4 131 RX4 yX4_columnWidth wsX4_columnWidth) := goodIn_app (goodIn_of _ (by decide +kernel)) ggX4_greatestSize_X4_columnWidth
theorem dX4_greatestSize_0 : decode cX4_greatestSize 0 = .ok (.iload_n 3, 1) := by decide +kernel
theorem dX4_greatestSize_1 : decode cX4_greatestSize 1 = .ok (.ifCond .ne 6, 3) := by decide +kernel
theorem dX4_greatestSize_4 : decode cX4_greatestSize 4 = .ok (.bipush 40, 2) := by decide +kernel
theorem dX4_greatestSize_6 : decode cX4_greatestSize 6 = .ok (.ireturn, 1) := by decide +kernel
theorem dX4_greatestSize_7 : decode cX4_greatestSize 7 = .ok (.bipush 12, 2) := by decide +kernel
theorem dX4_greatestSize_9 : decode cX4_greatestSize 9 = .ok (.aload_n 0, 1) := by decide +kernel
theorem dX4_greatestSize_10 : decode cX4_greatestSize 10 = .ok (.iload_n 3, 1) := by decide +kernel
theorem dX4_greatestSize_11 : decode cX4_greatestSize 11 = .ok (.invokevirtual 145, 3) := by decide +kernel
theorem dX4_greatestSize_14 : decode cX4_greatestSize 14 = .ok (.imul, 1) := by decide +kernel
theorem dX4_greatestSize_15 : decode cX4_greatestSize 15 = .ok (.istore 5, 2) := by decide +kernel
theorem dX4_greatestSize_17 : decode cX4_greatestSize 17 = .ok (.bipush 40, 2) := by decide +kernel
theorem dX4_greatestSize_19 : decode cX4_greatestSize 19 = .ok (.istore 6, 2) := by decide +kernel
theorem dX4_greatestSize_21 : decode cX4_greatestSize 21 = .ok (.iload 6, 2) := by decide +kernel
theorem dX4_greatestSize_23 : decode cX4_greatestSize 23 = .ok (.iconst 1, 1) := by decide +kernel
theorem dX4_greatestSize_24 : decode cX4_greatestSize 24 = .ok (.if_icmp .lt 41, 3) := by decide +kernel
theorem dX4_greatestSize_27 : decode cX4_greatestSize 27 = .ok (.iload 4, 2) := by decide +kernel
theorem dX4_greatestSize_29 : decode cX4_greatestSize 29 = .ok (.iload 6, 2) := by decide +kernel
theorem dX4_greatestSize_31 : decode cX4_greatestSize 31 = .ok (.imul, 1) := by decide +kernel
theorem dX4_greatestSize_32 : decode cX4_greatestSize 32 = .ok (.aload_n 0, 1) := by decide +kernel
theorem dX4_greatestSize_33 : decode cX4_greatestSize 33 = .ok (.iload_n 1, 1) := by decide +kernel
theorem dX4_greatestSize_34 : decode cX4_greatestSize 34 = .ok (.invokevirtual 131, 3) := by decide +kernel
theorem dX4_greatestSize_37 : decode cX4_greatestSize 37 = .ok (.if_icmp .gt 22, 3) := by decide +kernel
theorem dX4_greatestSize_40 : decode cX4_greatestSize 40 = .ok (.iload 5, 2) := by decide +kernel
theorem dX4_greatestSize_42 : decode cX4_greatestSize 42 = .ok (.iload 6, 2) := by decide +kernel
theorem dX4_greatestSize_44 : decode cX4_greatestSize 44 = .ok (.imul, 1) := by decide +kernel
theorem dX4_greatestSize_45 : decode cX4_greatestSize 45 = .ok (.iload_n 2, 1) := by decide +kernel
theorem dX4_greatestSize_46 : decode cX4_greatestSize 46 = .ok (.iconst 2, 1) := by decide +kernel
theorem dX4_greatestSize_47 : decode cX4_greatestSize 47 = .ok (.aload_n 0, 1) := by decide +kernel
theorem dX4_greatestSize_48 : decode cX4_greatestSize 48 = .ok (.getfield 32, 3) := by decide +kernel
theorem dX4_greatestSize_51 : decode cX4_greatestSize 51 = .ok (.imul, 1) := by decide +kernel
theorem dX4_greatestSize_52 : decode cX4_greatestSize 52 = .ok (.isub, 1) := by decide +kernel
theorem dX4_greatestSize_53 : decode cX4_greatestSize 53 = .ok (.if_icmp .gt 6, 3) := by decide +kernel
theorem dX4_greatestSize_56 : decode cX4_greatestSize 56 = .ok (.iload 6, 2) := by decide +kernel
theorem dX4_greatestSize_58 : decode cX4_greatestSize 58 = .ok (.ireturn, 1) := by decide +kernel
theorem dX4_greatestSize_59 : decode cX4_greatestSize 59 = .ok (.iinc 6 (-1), 3) := by decide +kernel
theorem dX4_greatestSize_62 : decode cX4_greatestSize 62 = .ok (.goto (-41), 3) := by decide +kernel
theorem dX4_greatestSize_65 : decode cX4_greatestSize 65 = .ok (.iconst 0, 1) := by decide +kernel
theorem dX4_greatestSize_66 : decode cX4_greatestSize 66 = .ok (.ireturn, 1) := by decide +kernel
set_option maxRecDepth 20000 in
theorem ggX4_fits_X4_unitsOf : GoodIn wsX4_fits wsX4_unitsOf := goodIn_r _ [8, 9, 10, 11, 12, 13, 14, 15, 16, 17, 18, 7, 19, 20, 21, 22, 23, 24, 25, 26, 27, 28, 29, 30, 31, 32, 33, 34, 35, 36, 37, 38, 39, 40, 41, 42, 43, 44, 45, 46, 47, 48, 49, 50, 51, 52, 53, 70, 71, 72, 73, 74, 75, 76, 77, 78, 79, 80, 81, 82, 83, 84, 85, 86] (by decide +kernel) (by decide +kernel)
set_option maxRecDepth 20000 in
theorem gX4_fits_X4_unitsOf : GoodIn wsX4_fits (wsV RX4 119 RX4 yX4_unitsOf wsX4_unitsOf) := goodIn_app (goodIn_of _ (by decide +kernel)) ggX4_fits_X4_unitsOf
set_option maxRecDepth 20000 in
theorem ggX4_fits_X4_columnWidth : GoodIn wsX4_fits wsX4_columnWidth := goodIn_r _ [57, 3, 58, 59, 60, 7, 61, 62, 63, 64, 65, 70, 71, 72, 73, 74, 75, 76, 77, 78, 79] (by decide +kernel) (by decide +kernel)
set_option maxRecDepth 20000 in
theorem gX4_fits_X4_columnWidth : GoodIn wsX4_fits (wsV RX4 131 RX4 yX4_columnWidth wsX4_columnWidth) := goodIn_app (goodIn_of _ (by decide +kernel)) ggX4_fits_X4_columnWidth
set_option maxRecDepth 20000 in
theorem ggX4_fits_X4_rowOf : GoodIn wsX4_fits wsX4_rowOf := goodIn_r _ [69, 58, 59, 60, 7, 61, 62, 63, 64, 65, 70, 71, 72, 73, 74, 75, 76, 77, 78, 79] (by decide +kernel) (by decide +kernel)
set_option maxRecDepth 20000 in
theorem gX4_fits_X4_rowOf : GoodIn wsX4_fits (wsV RX4 125 RX4 yX4_rowOf wsX4_rowOf) := goodIn_app (goodIn_of _ (by decide +kernel)) ggX4_fits_X4_rowOf
theorem dX4_fits_0 : decode cX4_fits 0 = .ok (.iload_n 2, 1) := by decide +kernel
theorem dX4_fits_1 : decode cX4_fits 1 = .ok (.ifCond .le 51, 3) := by decide +kernel
theorem dX4_fits_4 : decode cX4_fits 4 = .ok (.aload_n 0, 1) := by decide +kernel
theorem dX4_fits_5 : decode cX4_fits 5 = .ok (.iload_n 1, 1) := by decide +kernel
theorem dX4_fits_6 : decode cX4_fits 6 = .ok (.invokevirtual 119, 3) := by decide +kernel
theorem dX4_fits_9 : decode cX4_fits 9 = .ok (.iload_n 2, 1) := by decide +kernel
theorem dX4_fits_10 : decode cX4_fits 10 = .ok (.imul, 1) := by decide +kernel
theorem dX4_fits_11 : decode cX4_fits 11 = .ok (.aload_n 0, 1) := by decide +kernel
theorem dX4_fits_12 : decode cX4_fits 12 = .ok (.aload_n 0, 1) := by decide +kernel
theorem dX4_fits_13 : decode cX4_fits 13 = .ok (.getfield 25, 3) := by decide +kernel
theorem dX4_fits_16 : decode cX4_fits 16 = .ok (.invokevirtual 131, 3) := by decide +kernel
theorem dX4_fits_19 : decode cX4_fits 19 = .ok (.if_icmp .gt 33, 3) := by decide +kernel
theorem dX4_fits_22 : decode cX4_fits 22 = .ok (.bipush 12, 2) := by decide +kernel
theorem dX4_fits_24 : decode cX4_fits 24 = .ok (.iload_n 2, 1) := by decide +kernel
theorem dX4_fits_25 : decode cX4_fits 25 = .ok (.imul, 1) := by decide +kernel
theorem dX4_fits_26 : decode cX4_fits 26 = .ok (.aload_n 0, 1) := by decide +kernel
theorem dX4_fits_27 : decode cX4_fits 27 = .ok (.iload_n 1, 1) := by decide +kernel
theorem dX4_fits_28 : decode cX4_fits 28 = .ok (.invokevirtual 125, 3) := by decide +kernel
theorem dX4_fits_31 : decode cX4_fits 31 = .ok (.iconst 1, 1) := by decide +kernel
theorem dX4_fits_32 : decode cX4_fits 32 = .ok (.iadd, 1) := by decide +kernel
theorem dX4_fits_33 : decode cX4_fits 33 = .ok (.imul, 1) := by decide +kernel
theorem dX4_fits_34 : decode cX4_fits 34 = .ok (.aload_n 0, 1) := by decide +kernel
theorem dX4_fits_35 : decode cX4_fits 35 = .ok (.getfield 29, 3) := by decide +kernel
theorem dX4_fits_38 : decode cX4_fits 38 = .ok (.iconst 2, 1) := by decide +kernel
theorem dX4_fits_39 : decode cX4_fits 39 = .ok (.aload_n 0, 1) := by decide +kernel
theorem dX4_fits_40 : decode cX4_fits 40 = .ok (.getfield 32, 3) := by decide +kernel
theorem dX4_fits_43 : decode cX4_fits 43 = .ok (.imul, 1) := by decide +kernel
theorem dX4_fits_44 : decode cX4_fits 44 = .ok (.isub, 1) := by decide +kernel
theorem dX4_fits_45 : decode cX4_fits 45 = .ok (.if_icmp .gt 7, 3) := by decide +kernel
theorem dX4_fits_48 : decode cX4_fits 48 = .ok (.iconst 1, 1) := by decide +kernel
theorem dX4_fits_49 : decode cX4_fits 49 = .ok (.goto 4, 3) := by decide +kernel
theorem dX4_fits_52 : decode cX4_fits 52 = .ok (.iconst 0, 1) := by decide +kernel
theorem dX4_fits_53 : decode cX4_fits 53 = .ok (.ireturn, 1) := by decide +kernel
set_option maxRecDepth 20000 in
theorem ggX4_beginOf_X4_columnWidth : GoodIn wsX4_beginOf wsX4_columnWidth := goodIn_r _ [13, 14, 15, 16, 17, 12, 18, 19, 20, 21, 22, 87, 88, 89, 90, 91, 92, 93, 94, 95, 96] (by decide +kernel) (by decide +kernel)
set_option maxRecDepth 20000 in
theorem gX4_beginOf_X4_columnWidth : GoodIn wsX4_beginOf (wsV RX4 131 RX4 yX4_columnWidth wsX4_columnWidth) := goodIn_app (goodIn_of _ (by decide +kernel)) ggX4_beginOf_X4_columnWidth
set_option maxRecDepth 20000 in
theorem ggX4_beginOf_X4_columnBegin : GoodIn wsX4_beginOf wsX4_columnBegin := goodIn_r _ [26, 14, 1, 27, 28, 29, 12, 30, 15, 9, 10, 11, 13, 16, 17, 18, 19, 20, 21, 22, 87, 88, 89, 90, 91, 92, 93, 94, 95, 96] (by decide +kernel) (by decide +kernel)
set_option maxRecDepth 20000 in
theorem gX4_beginOf_X4_columnBegin : GoodIn wsX4_beginOf (wsV RX4 148 RX4 yX4_columnBegin wsX4_columnBegin) := goodIn_app (goodIn_of _ (by decide +kernel)) ggX4_beginOf_X4_columnBegin
set_option maxRecDepth 20000 in
theorem ggX4_beginOf_X4_inkOf : GoodIn wsX4_beginOf wsX4_inkOf := goodIn_r _ [34, 35, 36, 37, 38, 39, 40, 41, 42, 43, 44, 45, 46, 47, 48, 49, 50, 87, 88, 89, 90, 91, 92, 93, 94, 95, 96, 97, 98, 99] (by decide +kernel) (by decide +kernel)
set_option maxRecDepth 20000 in
theorem gX4_beginOf_X4_inkOf : GoodIn wsX4_beginOf (wsV RX4 151 RX4 yX4_inkOf wsX4_inkOf) := goodIn_app (goodIn_of _ (by decide +kernel)) ggX4_beginOf_X4_inkOf
set_option maxRecDepth 20000 in
theorem ggX4_beginOf_X4_twiceInkMoment : GoodIn wsX4_beginOf wsX4_twiceInkMoment := goodIn_r _ [54, 35, 36, 37, 38, 39, 40, 41, 42, 43, 44, 45, 46, 55, 56, 49, 57, 47, 48, 50, 58, 59, 60, 12, 61, 62, 6, 7, 4, 8, 63, 64, 65, 66, 67, 68, 69, 70, 71, 72, 73, 74, 75, 76, 77, 78, 87, 88, 89, 90, 91, 92, 93, 94, 95, 96, 97, 98, 99, 100, 101, 102, 103] (by decide +kernel) (by decide +kernel)
set_option maxRecDepth 20000 in
theorem gX4_beginOf_X4_twiceInkMoment : GoodIn wsX4_beginOf (wsV RX4 154 RX4 yX4_twiceInkMoment wsX4_twiceInkMoment) := goodIn_app (goodIn_of _ (by decide +kernel)) ggX4_beginOf_X4_twiceInkMoment
set_option maxRecDepth 20000 in
theorem ggX4_beginOf_X4_quotient : GoodIn wsX4_beginOf wsX4_quotient := goodIn_r _ [18, 19, 20, 21, 22] (by decide +kernel) (by decide +kernel)
set_option maxRecDepth 20000 in
theorem gX4_beginOf_X4_quotient : GoodIn wsX4_beginOf (va_wsS RX4 122 yX4_quotient wsX4_quotient) := goodIn_app (goodIn_of _ (by decide +kernel)) ggX4_beginOf_X4_quotient
set_option maxRecDepth 20000 in
theorem ggX4_beginOf_X4_unitsOf : GoodIn wsX4_beginOf wsX4_unitsOf := goodIn_r _ [82, 35, 36, 37, 38, 39, 40, 41, 83, 84, 85, 12, 86, 42, 43, 44, 45, 46, 55, 56, 49, 57, 58, 59, 60, 61, 62, 6, 7, 4, 8, 63, 64, 65, 66, 67, 68, 69, 70, 71, 72, 73, 74, 75, 76, 77, 78, 87, 88, 89, 90, 91, 92, 93, 94, 95, 96, 97, 98, 99, 100, 101, 102, 103] (by decide +kernel) (by decide +kernel)
set_option maxRecDepth 20000 in
theorem gX4_beginOf_X4_unitsOf : GoodIn wsX4_beginOf (wsV RX4 119 RX4 yX4_unitsOf wsX4_unitsOf) := goodIn_app (goodIn_of _ (by decide +kernel)) ggX4_beginOf_X4_unitsOf
theorem dX4_beginOf_0 : decode cX4_beginOf 0 = .ok (.aload_n 0, 1) := by decide +kernel
theorem dX4_beginOf_1 : decode cX4_beginOf 1 = .ok (.aload_n 0, 1) := by decide +kernel
theorem dX4_beginOf_2 : decode cX4_beginOf 2 = .ok (.getfield 25, 3) := by decide +kernel
theorem dX4_beginOf_5 : decode cX4_beginOf 5 = .ok (.invokevirtual 131, 3) := by decide +kernel
theorem dX4_beginOf_8 : decode cX4_beginOf 8 = .ok (.istore_n 3, 1) := by decide +kernel
theorem dX4_beginOf_9 : decode cX4_beginOf 9 = .ok (.aload_n 0, 1) := by decide +kernel
theorem dX4_beginOf_10 : decode cX4_beginOf 10 = .ok (.iload_n 1, 1) := by decide +kernel
theorem dX4_beginOf_11 : decode cX4_beginOf 11 = .ok (.invokevirtual 148, 3) := by decide +kernel
theorem dX4_beginOf_14 : decode cX4_beginOf 14 = .ok (.istore 4, 2) := by decide +kernel
theorem dX4_beginOf_16 : decode cX4_beginOf 16 = .ok (.aload_n 0, 1) := by decide +kernel
theorem dX4_beginOf_17 : decode cX4_beginOf 17 = .ok (.iload_n 1, 1) := by decide +kernel
theorem dX4_beginOf_18 : decode cX4_beginOf 18 = .ok (.invokevirtual 151, 3) := by decide +kernel
theorem dX4_beginOf_21 : decode cX4_beginOf 21 = .ok (.istore 5, 2) := by decide +kernel
theorem dX4_beginOf_23 : decode cX4_beginOf 23 = .ok (.iconst 2, 1) := by decide +kernel
theorem dX4_beginOf_24 : decode cX4_beginOf 24 = .ok (.iload 5, 2) := by decide +kernel
theorem dX4_beginOf_26 : decode cX4_beginOf 26 = .ok (.imul, 1) := by decide +kernel
theorem dX4_beginOf_27 : decode cX4_beginOf 27 = .ok (.istore 6, 2) := by decide +kernel
theorem dX4_beginOf_29 : decode cX4_beginOf 29 = .ok (.iload 5, 2) := by decide +kernel
theorem dX4_beginOf_31 : decode cX4_beginOf 31 = .ok (.iconst 2, 1) := by decide +kernel
theorem dX4_beginOf_32 : decode cX4_beginOf 32 = .ok (.iload 4, 2) := by decide +kernel
theorem dX4_beginOf_34 : decode cX4_beginOf 34 = .ok (.imul, 1) := by decide +kernel
theorem dX4_beginOf_35 : decode cX4_beginOf 35 = .ok (.iload_n 3, 1) := by decide +kernel
theorem dX4_beginOf_36 : decode cX4_beginOf 36 = .ok (.iadd, 1) := by decide +kernel
theorem dX4_beginOf_37 : decode cX4_beginOf 37 = .ok (.imul, 1) := by decide +kernel
theorem dX4_beginOf_38 : decode cX4_beginOf 38 = .ok (.iload_n 2, 1) := by decide +kernel
theorem dX4_beginOf_39 : decode cX4_beginOf 39 = .ok (.aload_n 0, 1) := by decide +kernel
theorem dX4_beginOf_40 : decode cX4_beginOf 40 = .ok (.iload_n 1, 1) := by decide +kernel
theorem dX4_beginOf_41 : decode cX4_beginOf 41 = .ok (.invokevirtual 154, 3) := by decide +kernel
theorem dX4_beginOf_44 : decode cX4_beginOf 44 = .ok (.imul, 1) := by decide +kernel
theorem dX4_beginOf_45 : decode cX4_beginOf 45 = .ok (.isub, 1) := by decide +kernel
theorem dX4_beginOf_46 : decode cX4_beginOf 46 = .ok (.iload 6, 2) := by decide +kernel
theorem dX4_beginOf_48 : decode cX4_beginOf 48 = .ok (.invokestatic 122, 3) := by decide +kernel
theorem dX4_beginOf_51 : decode cX4_beginOf 51 = .ok (.istore 7, 2) := by decide +kernel
theorem dX4_beginOf_53 : decode cX4_beginOf 53 = .ok (.iload 4, 2) := by decide +kernel
theorem dX4_beginOf_55 : decode cX4_beginOf 55 = .ok (.iload_n 3, 1) := by decide +kernel
theorem dX4_beginOf_56 : decode cX4_beginOf 56 = .ok (.iadd, 1) := by decide +kernel
theorem dX4_beginOf_57 : decode cX4_beginOf 57 = .ok (.aload_n 0, 1) := by decide +kernel
theorem dX4_beginOf_58 : decode cX4_beginOf 58 = .ok (.iload_n 1, 1) := by decide +kernel
theorem dX4_beginOf_59 : decode cX4_beginOf 59 = .ok (.invokevirtual 119, 3) := by decide +kernel
theorem dX4_beginOf_62 : decode cX4_beginOf 62 = .ok (.iload_n 2, 1) := by decide +kernel
theorem dX4_beginOf_63 : decode cX4_beginOf 63 = .ok (.imul, 1) := by decide +kernel
theorem dX4_beginOf_64 : decode cX4_beginOf 64 = .ok (.isub, 1) := by decide +kernel
theorem dX4_beginOf_65 : decode cX4_beginOf 65 = .ok (.istore 8, 2) := by decide +kernel
theorem dX4_beginOf_67 : decode cX4_beginOf 67 = .ok (.iload 4, 2) := by decide +kernel
theorem dX4_beginOf_69 : decode cX4_beginOf 69 = .ok (.iload 7, 2) := by decide +kernel
theorem dX4_beginOf_71 : decode cX4_beginOf 71 = .ok (.iload 8, 2) := by decide +kernel
theorem dX4_beginOf_73 : decode cX4_beginOf 73 = .ok (.invokestatic 157, 3) := by decide +kernel
theorem dX4_beginOf_76 : decode cX4_beginOf 76 = .ok (.invokestatic 102, 3) := by decide +kernel
theorem dX4_beginOf_79 : decode cX4_beginOf 79 = .ok (.ireturn, 1) := by decide +kernel
set_option maxRecDepth 20000 in
theorem ggX4_twiceInkMoment_X1_lengthOf : GoodIn wsX4_twiceInkMoment wsX1_lengthOf := goodIn_r _ [6, 7, 56, 57, 58] (by decide +kernel) (by decide +kernel)
set_option maxRecDepth 20000 in
theorem gX4_twiceInkMoment_X1_lengthOf : GoodIn wsX4_twiceInkMoment (wsV RX4 82 RX1 yX1_lengthOf wsX1_lengthOf) := goodIn_app (goodIn_of _ (by decide +kernel)) ggX4_twiceInkMoment_X1_lengthOf
set_option maxRecDepth 20000 in
theorem ggX4_twiceInkMoment_X1_codeAt : GoodIn wsX4_twiceInkMoment wsX1_codeAt := goodIn_r _ [11, 12, 56, 57, 58] (by decide +kernel) (by decide +kernel)
set_option maxRecDepth 20000 in
theorem gX4_twiceInkMoment_X1_codeAt : GoodIn wsX4_twiceInkMoment (wsV RX4 85 RX1 yX1_codeAt wsX1_codeAt) := goodIn_app (goodIn_of _ (by decide +kernel)) ggX4_twiceInkMoment_X1_codeAt
set_option maxRecDepth 20000 in
theorem ggX4_twiceInkMoment_X3_width : GoodIn wsX4_twiceInkMoment wsX3_width := goodIn_r _ [16] (by decide +kernel) (by decide +kernel)
set_option maxRecDepth 20000 in
theorem gX4_twiceInkMoment_X3_width : GoodIn wsX4_twiceInkMoment (va_wsS RX4 111 yX3_width wsX3_width) := goodIn_app (goodIn_of _ (by decide +kernel)) ggX4_twiceInkMoment_X3_width
set_option maxRecDepth 20000 in
theorem ggX4_twiceInkMoment_X3_ink : GoodIn wsX4_twiceInkMoment wsX3_ink := goodIn_r _ [19] (by decide +kernel) (by decide +kernel)
set_option maxRecDepth 20000 in
theorem gX4_twiceInkMoment_X3_ink : GoodIn wsX4_twiceInkMoment (va_wsS RX4 116 yX3_ink wsX3_ink) := goodIn_app (goodIn_of _ (by decide +kernel)) ggX4_twiceInkMoment_X3_ink
set_option maxRecDepth 20000 in
theorem ggX4_twiceInkMoment_X4_spaceBehind : GoodIn wsX4_twiceInkMoment wsX4_spaceBehind := goodIn_r _ [24, 1, 25, 26, 27, 28, 29, 2, 3, 4, 5, 6, 7, 8, 9, 10, 11, 12, 30, 31, 32, 33, 34, 35, 36, 37, 38, 39, 40, 41, 42, 43, 44, 15, 45, 46, 47, 48, 49, 50, 51, 52, 53, 54, 55, 56, 57, 58, 59, 60, 61, 62] (by decide +kernel) (by decide +kernel)
set_option maxRecDepth 20000 in
theorem gX4_twiceInkMoment_X4_spaceBehind : GoodIn wsX4_twiceInkMoment (wsV RX4 108 RX4 yX4_spaceBehind wsX4_spaceBehind) := goodIn_app (goodIn_of _ (by decide +kernel)) ggX4_twiceInkMoment_X4_spaceBehind
theorem dX4_twiceInkMoment_0 : decode cX4_twiceInkMoment 0 = .ok (.iconst 0, 1) := by decide +kernel
theorem dX4_twiceInkMoment_1 : decode cX4_twiceInkMoment 1 = .ok (.istore_n 2, 1) := by decide +kernel
theorem dX4_twiceInkMoment_2 : decode cX4_twiceInkMoment 2 = .ok (.iconst 0, 1) := by decide +kernel
theorem dX4_twiceInkMoment_3 : decode cX4_twiceInkMoment 3 = .ok (.istore_n 3, 1) := by decide +kernel
theorem dX4_twiceInkMoment_4 : decode cX4_twiceInkMoment 4 = .ok (.iconst 0, 1) := by decide +kernel
theorem dX4_twiceInkMoment_5 : decode cX4_twiceInkMoment 5 = .ok (.istore 4, 2) := by decide +kernel
theorem dX4_twiceInkMoment_7 : decode cX4_twiceInkMoment 7 = .ok (.iload 4, 2) := by decide +kernel
theorem dX4_twiceInkMoment_9 : decode cX4_twiceInkMoment 9 = .ok (.aload_n 0, 1) := by decide +kernel
theorem dX4_twiceInkMoment_10 : decode cX4_twiceInkMoment 10 = .ok (.getfield 12, 3) := by decide +kernel
theorem dX4_twiceInkMoment_13 : decode cX4_twiceInkMoment 13 = .ok (.iload_n 1, 1) := by decide +kernel
theorem dX4_twiceInkMoment_14 : decode cX4_twiceInkMoment 14 = .ok (.invokevirtual 82, 3) := by decide +kernel
theorem dX4_twiceInkMoment_17 : decode cX4_twiceInkMoment 17 = .ok (.if_icmp .ge 56, 3) := by decide +kernel
theorem dX4_twiceInkMoment_20 : decode cX4_twiceInkMoment 20 = .ok (.aload_n 0, 1) := by decide +kernel
theorem dX4_twiceInkMoment_21 : decode cX4_twiceInkMoment 21 = .ok (.getfield 12, 3) := by decide +kernel
theorem dX4_twiceInkMoment_24 : decode cX4_twiceInkMoment 24 = .ok (.iload_n 1, 1) := by decide +kernel
theorem dX4_twiceInkMoment_25 : decode cX4_twiceInkMoment 25 = .ok (.iload 4, 2) := by decide +kernel
theorem dX4_twiceInkMoment_27 : decode cX4_twiceInkMoment 27 = .ok (.invokevirtual 85, 3) := by decide +kernel
theorem dX4_twiceInkMoment_30 : decode cX4_twiceInkMoment 30 = .ok (.istore 5, 2) := by decide +kernel
theorem dX4_twiceInkMoment_32 : decode cX4_twiceInkMoment 32 = .ok (.iload 5, 2) := by decide +kernel
theorem dX4_twiceInkMoment_34 : decode cX4_twiceInkMoment 34 = .ok (.invokestatic 111, 3) := by decide +kernel
theorem dX4_twiceInkMoment_37 : decode cX4_twiceInkMoment 37 = .ok (.istore 6, 2) := by decide +kernel
theorem dX4_twiceInkMoment_39 : decode cX4_twiceInkMoment 39 = .ok (.iload_n 2, 1) := by decide +kernel
theorem dX4_twiceInkMoment_40 : decode cX4_twiceInkMoment 40 = .ok (.iload 5, 2) := by decide +kernel
theorem dX4_twiceInkMoment_42 : decode cX4_twiceInkMoment 42 = .ok (.invokestatic 116, 3) := by decide +kernel
theorem dX4_twiceInkMoment_45 : decode cX4_twiceInkMoment 45 = .ok (.iconst 2, 1) := by decide +kernel
theorem dX4_twiceInkMoment_46 : decode cX4_twiceInkMoment 46 = .ok (.iload_n 3, 1) := by decide +kernel
theorem dX4_twiceInkMoment_47 : decode cX4_twiceInkMoment 47 = .ok (.imul, 1) := by decide +kernel
theorem dX4_twiceInkMoment_48 : decode cX4_twiceInkMoment 48 = .ok (.iload 6, 2) := by decide +kernel
theorem dX4_twiceInkMoment_50 : decode cX4_twiceInkMoment 50 = .ok (.iadd, 1) := by decide +kernel
theorem dX4_twiceInkMoment_51 : decode cX4_twiceInkMoment 51 = .ok (.imul, 1) := by decide +kernel
theorem dX4_twiceInkMoment_52 : decode cX4_twiceInkMoment 52 = .ok (.iadd, 1) := by decide +kernel
theorem dX4_twiceInkMoment_53 : decode cX4_twiceInkMoment 53 = .ok (.istore_n 2, 1) := by decide +kernel
theorem dX4_twiceInkMoment_54 : decode cX4_twiceInkMoment 54 = .ok (.iload_n 3, 1) := by decide +kernel
theorem dX4_twiceInkMoment_55 : decode cX4_twiceInkMoment 55 = .ok (.iload 6, 2) := by decide +kernel
theorem dX4_twiceInkMoment_57 : decode cX4_twiceInkMoment 57 = .ok (.aload_n 0, 1) := by decide +kernel
theorem dX4_twiceInkMoment_58 : decode cX4_twiceInkMoment 58 = .ok (.iload_n 1, 1) := by decide +kernel
theorem dX4_twiceInkMoment_59 : decode cX4_twiceInkMoment 59 = .ok (.iload 4, 2) := by decide +kernel
theorem dX4_twiceInkMoment_61 : decode cX4_twiceInkMoment 61 = .ok (.invokevirtual 108, 3) := by decide +kernel
theorem dX4_twiceInkMoment_64 : decode cX4_twiceInkMoment 64 = .ok (.iadd, 1) := by decide +kernel
theorem dX4_twiceInkMoment_65 : decode cX4_twiceInkMoment 65 = .ok (.iadd, 1) := by decide +kernel
theorem dX4_twiceInkMoment_66 : decode cX4_twiceInkMoment 66 = .ok (.istore_n 3, 1) := by decide +kernel
theorem dX4_twiceInkMoment_67 : decode cX4_twiceInkMoment 67 = .ok (.iinc 4 1, 3) := by decide +kernel
theorem dX4_twiceInkMoment_70 : decode cX4_twiceInkMoment 70 = .ok (.goto (-63), 3) := by decide +kernel
theorem dX4_twiceInkMoment_73 : decode cX4_twiceInkMoment 73 = .ok (.iload_n 2, 1) := by decide +kernel
theorem dX4_twiceInkMoment_74 : decode cX4_twiceInkMoment 74 = .ok (.ireturn, 1) := by decide +kernel
set_option maxRecDepth 20000 in
theorem ggX4_middleBegin_X4_columnBegin : GoodIn wsX4_middleBegin wsX4_columnBegin := goodIn_r _ [10, 11, 1, 12, 13, 14, 9, 15, 16, 17, 18, 19, 20, 21, 22, 23, 24, 25, 26, 27, 73, 74, 75, 76, 77, 78, 79, 80, 81, 82] (by decide +kernel) (by decide +kernel)
set_option maxRecDepth 20000 in
theorem gX4_middleBegin_X4_columnBegin : GoodIn wsX4_middleBegin (wsV RX4 148 RX4 yX4_columnBegin wsX4_columnBegin) := goodIn_app (goodIn_of _ (by decide +kernel)) ggX4_middleBegin_X4_columnBegin
set_option maxRecDepth 20000 in
theorem ggX4_middleBegin_X4_columnWidth : GoodIn wsX4_middleBegin wsX4_columnWidth := goodIn_r _ [20, 11, 16, 21, 22, 9, 23, 24, 25, 26, 27, 73, 74, 75, 76, 77, 78, 79, 80, 81, 82] (by decide +kernel) (by decide +kernel)
set_option maxRecDepth 20000 in
theorem gX4_middleBegin_X4_columnWidth : GoodIn wsX4_middleBegin (wsV RX4 131 RX4 yX4_columnWidth wsX4_columnWidth) := goodIn_app (goodIn_of _ (by decide +kernel)) ggX4_middleBegin_X4_columnWidth
set_option maxRecDepth 20000 in
theorem ggX4_middleBegin_X4_unitsOf : GoodIn wsX4_middleBegin wsX4_unitsOf := goodIn_r _ [31, 32, 33, 34, 35, 36, 37, 38, 39, 40, 41, 9, 42, 43, 44, 45, 46, 47, 48, 49, 50, 51, 52, 53, 54, 55, 56, 2, 3, 4, 5, 57, 58, 59, 60, 61, 62, 63, 64, 65, 66, 67, 68, 69, 70, 71, 72, 73, 74, 75, 76, 77, 78, 79, 80, 81, 82, 83, 84, 85, 86, 87, 88, 89] (by decide +kernel) (by decide +kernel)
set_option maxRecDepth 20000 in
theorem gX4_middleBegin_X4_unitsOf : GoodIn wsX4_middleBegin (wsV RX4 119 RX4 yX4_unitsOf wsX4_unitsOf) := goodIn_app (goodIn_of _ (by decide +kernel)) ggX4_middleBegin_X4_unitsOf
set_option maxRecDepth 20000 in
theorem ggX4_middleBegin_J9_floorDiv_7cf53 : GoodIn wsX4_middleBegin wsJ9_floorDiv_7cf53 := goodIn_r _ [27] (by decide +kernel) (by decide +kernel)
set_option maxRecDepth 20000 in
theorem gX4_middleBegin_J9_floorDiv_7cf53 : GoodIn wsX4_middleBegin (va_wsS RX4 160 yJ9_floorDiv_7cf53 wsJ9_floorDiv_7cf53) := goodIn_app (goodIn_of _ (by decide +kernel)) ggX4_middleBegin_J9_floorDiv_7cf53
theorem dX4_middleBegin_0 : decode cX4_middleBegin 0 = .ok (.aload_n 0, 1) := by decide +kernel
theorem dX4_middleBegin_1 : decode cX4_middleBegin 1 = .ok (.iload_n 1, 1) := by decide +kernel
theorem dX4_middleBegin_2 : decode cX4_middleBegin 2 = .ok (.invokevirtual 148, 3) := by decide +kernel
theorem dX4_middleBegin_5 : decode cX4_middleBegin 5 = .ok (.istore_n 3, 1) := by decide +kernel
theorem dX4_middleBegin_6 : decode cX4_middleBegin 6 = .ok (.aload_n 0, 1) := by decide +kernel
theorem dX4_middleBegin_7 : decode cX4_middleBegin 7 = .ok (.aload_n 0, 1) := by decide +kernel
theorem dX4_middleBegin_8 : decode cX4_middleBegin 8 = .ok (.getfield 25, 3) := by decide +kernel
theorem dX4_middleBegin_11 : decode cX4_middleBegin 11 = .ok (.invokevirtual 131, 3) := by decide +kernel
theorem dX4_middleBegin_14 : decode cX4_middleBegin 14 = .ok (.aload_n 0, 1) := by decide +kernel
theorem dX4_middleBegin_15 : decode cX4_middleBegin 15 = .ok (.iload_n 1, 1) := by decide +kernel
theorem dX4_middleBegin_16 : decode cX4_middleBegin 16 = .ok (.invokevirtual 119, 3) := by decide +kernel
theorem dX4_middleBegin_19 : decode cX4_middleBegin 19 = .ok (.iload_n 2, 1) := by decide +kernel
theorem dX4_middleBegin_20 : decode cX4_middleBegin 20 = .ok (.imul, 1) := by decide +kernel
theorem dX4_middleBegin_21 : decode cX4_middleBegin 21 = .ok (.isub, 1) := by decide +kernel
theorem dX4_middleBegin_22 : decode cX4_middleBegin 22 = .ok (.istore 4, 2) := by decide +kernel
theorem dX4_middleBegin_24 : decode cX4_middleBegin 24 = .ok (.iload_n 3, 1) := by decide +kernel
theorem dX4_middleBegin_25 : decode cX4_middleBegin 25 = .ok (.iload_n 3, 1) := by decide +kernel
theorem dX4_middleBegin_26 : decode cX4_middleBegin 26 = .ok (.iload 4, 2) := by decide +kernel
theorem dX4_middleBegin_28 : decode cX4_middleBegin 28 = .ok (.iconst 2, 1) := by decide +kernel
theorem dX4_middleBegin_29 : decode cX4_middleBegin 29 = .ok (.invokestatic 160, 3) := by decide +kernel
theorem dX4_middleBegin_32 : decode cX4_middleBegin 32 = .ok (.iadd, 1) := by decide +kernel
theorem dX4_middleBegin_33 : decode cX4_middleBegin 33 = .ok (.invokestatic 102, 3) := by decide +kernel
theorem dX4_middleBegin_36 : decode cX4_middleBegin 36 = .ok (.ireturn, 1) := by decide +kernel
set_option maxRecDepth 20000 in
theorem ggX4_indexAt_X4_beginOf : GoodIn wsX4_indexAt wsX4_beginOf := goodIn_r _ [6, 7, 8, 9, 10, 11, 12, 13, 14, 15, 16, 17, 5, 18, 19, 20, 21, 22, 23, 24, 25, 26, 27, 28, 29, 30, 31, 32, 33, 34, 35, 36, 37, 38, 39, 1, 40, 41, 42, 43, 44, 45, 46, 47, 48, 49, 50, 51, 52, 53, 54, 55, 56, 57, 58, 59, 60, 61, 62, 63, 64, 65, 66, 67, 68, 69, 70, 71, 72, 73, 74, 75, 76, 77, 78, 79, 80, 81, 82, 83, 84, 85, 86, 87, 88, 89, 90, 91, 92, 93, 94, 95, 96, 97, 98, 99, 100, 101, 102, 103, 104, 105, 106, 107] (by decide +kernel) (by decide +kernel)
set_option maxRecDepth 20000 in
theorem gX4_indexAt_X4_beginOf : GoodIn wsX4_indexAt (wsV RX4 163 RX4 yX4_beginOf wsX4_beginOf) := goodIn_app (goodIn_of _ (by decide +kernel)) ggX4_indexAt_X4_beginOf
set_option maxRecDepth 20000 in
theorem ggX4_indexAt_X1_lengthOf : GoodIn wsX4_indexAt wsX1_lengthOf := goodIn_r _ [44, 45, 101, 102, 103] (by decide +kernel) (by decide +kernel)
set_option maxRecDepth 20000 in
theorem gX4_indexAt_X1_lengthOf : GoodIn wsX4_indexAt (wsV RX4 82 RX1 yX1_lengthOf wsX1_lengthOf) := goodIn_app (goodIn_of _ (by decide +kernel)) ggX4_indexAt_X1_lengthOf
set_option maxRecDepth 20000 in
theorem ggX4_indexAt_X1_codeAt : GoodIn wsX4_indexAt wsX1_codeAt := goodIn_r _ [49, 50, 101, 102, 103] (by decide +kernel) (by decide +kernel)
set_option maxRecDepth 20000 in
theorem gX4_indexAt_X1_codeAt : GoodIn wsX4_indexAt (wsV RX4 85 RX1 yX1_codeAt wsX1_codeAt) := goodIn_app (goodIn_of _ (by decide +kernel)) ggX4_indexAt_X1_codeAt
set_option maxRecDepth 20000 in
theorem ggX4_indexAt_X3_width : GoodIn wsX4_indexAt wsX3_width := goodIn_r _ [61] (by decide +kernel) (by decide +kernel)
set_option maxRecDepth 20000 in
theorem gX4_indexAt_X3_width : GoodIn wsX4_indexAt (va_wsS RX4 111 yX3_width wsX3_width) := goodIn_app (goodIn_of _ (by decide +kernel)) ggX4_indexAt_X3_width
set_option maxRecDepth 20000 in
theorem ggX4_indexAt_X4_spaceBehind : GoodIn wsX4_indexAt wsX4_spaceBehind := goodIn_r _ [65, 1, 66, 12, 13, 10, 14, 40, 41, 42, 43, 44, 45, 46, 47, 48, 49, 50, 67, 68, 69, 70, 71, 72, 73, 74, 75, 76, 77, 78, 79, 80, 81, 53, 82, 91, 92, 93, 94, 95, 96, 97, 98, 99, 100, 101, 102, 103, 104, 105, 106, 107] (by decide +kernel) (by decide +kernel)
set_option maxRecDepth 20000 in
theorem gX4_indexAt_X4_spaceBehind : GoodIn wsX4_indexAt (wsV RX4 108 RX4 yX4_spaceBehind wsX4_spaceBehind) := goodIn_app (goodIn_of _ (by decide +kernel)) ggX4_indexAt_X4_spaceBehind
theorem dX4_indexAt_0 : decode cX4_indexAt 0 = .ok (.aload_n 0, 1) := by decide +kernel
theorem dX4_indexAt_1 : decode cX4_indexAt 1 = .ok (.iload_n 1, 1) := by decide +kernel
theorem dX4_indexAt_2 : decode cX4_indexAt 2 = .ok (.iload_n 3, 1) := by decide +kernel
theorem dX4_indexAt_3 : decode cX4_indexAt 3 = .ok (.invokevirtual 163, 3) := by decide +kernel
theorem dX4_indexAt_6 : decode cX4_indexAt 6 = .ok (.istore 4, 2) := by decide +kernel
theorem dX4_indexAt_8 : decode cX4_indexAt 8 = .ok (.iconst 0, 1) := by decide +kernel
theorem dX4_indexAt_9 : decode cX4_indexAt 9 = .ok (.istore 5, 2) := by decide +kernel
theorem dX4_indexAt_11 : decode cX4_indexAt 11 = .ok (.iload 5, 2) := by decide +kernel
theorem dX4_indexAt_13 : decode cX4_indexAt 13 = .ok (.aload_n 0, 1) := by decide +kernel
theorem dX4_indexAt_14 : decode cX4_indexAt 14 = .ok (.getfield 12, 3) := by decide +kernel
theorem dX4_indexAt_17 : decode cX4_indexAt 17 = .ok (.iload_n 1, 1) := by decide +kernel
theorem dX4_indexAt_18 : decode cX4_indexAt 18 = .ok (.invokevirtual 82, 3) := by decide +kernel
theorem dX4_indexAt_21 : decode cX4_indexAt 21 = .ok (.if_icmp .ge 58, 3) := by decide +kernel
theorem dX4_indexAt_24 : decode cX4_indexAt 24 = .ok (.iload 4, 2) := by decide +kernel
theorem dX4_indexAt_26 : decode cX4_indexAt 26 = .ok (.aload_n 0, 1) := by decide +kernel
theorem dX4_indexAt_27 : decode cX4_indexAt 27 = .ok (.getfield 12, 3) := by decide +kernel
theorem dX4_indexAt_30 : decode cX4_indexAt 30 = .ok (.iload_n 1, 1) := by decide +kernel
theorem dX4_indexAt_31 : decode cX4_indexAt 31 = .ok (.iload 5, 2) := by decide +kernel
theorem dX4_indexAt_33 : decode cX4_indexAt 33 = .ok (.invokevirtual 85, 3) := by decide +kernel
theorem dX4_indexAt_36 : decode cX4_indexAt 36 = .ok (.invokestatic 111, 3) := by decide +kernel
theorem dX4_indexAt_39 : decode cX4_indexAt 39 = .ok (.iload_n 3, 1) := by decide +kernel
theorem dX4_indexAt_40 : decode cX4_indexAt 40 = .ok (.imul, 1) := by decide +kernel
theorem dX4_indexAt_41 : decode cX4_indexAt 41 = .ok (.iadd, 1) := by decide +kernel
theorem dX4_indexAt_42 : decode cX4_indexAt 42 = .ok (.istore 6, 2) := by decide +kernel
theorem dX4_indexAt_44 : decode cX4_indexAt 44 = .ok (.iload_n 2, 1) := by decide +kernel
theorem dX4_indexAt_45 : decode cX4_indexAt 45 = .ok (.iload 4, 2) := by decide +kernel
theorem dX4_indexAt_47 : decode cX4_indexAt 47 = .ok (.if_icmp .lt 12, 3) := by decide +kernel
theorem dX4_indexAt_50 : decode cX4_indexAt 50 = .ok (.iload_n 2, 1) := by decide +kernel
theorem dX4_indexAt_51 : decode cX4_indexAt 51 = .ok (.iload 6, 2) := by decide +kernel
theorem dX4_indexAt_53 : decode cX4_indexAt 53 = .ok (.if_icmp .ge 6, 3) := by decide +kernel
theorem dX4_indexAt_56 : decode cX4_indexAt 56 = .ok (.iload 5, 2) := by decide +kernel
theorem dX4_indexAt_58 : decode cX4_indexAt 58 = .ok (.ireturn, 1) := by decide +kernel
theorem dX4_indexAt_59 : decode cX4_indexAt 59 = .ok (.iload 6, 2) := by decide +kernel
theorem dX4_indexAt_61 : decode cX4_indexAt 61 = .ok (.aload_n 0, 1) := by decide +kernel
theorem dX4_indexAt_62 : decode cX4_indexAt 62 = .ok (.iload_n 1, 1) := by decide +kernel
theorem dX4_indexAt_63 : decode cX4_indexAt 63 = .ok (.iload 5, 2) := by decide +kernel
theorem dX4_indexAt_65 : decode cX4_indexAt 65 = .ok (.invokevirtual 108, 3) := by decide +kernel
theorem dX4_indexAt_68 : decode cX4_indexAt 68 = .ok (.iload_n 3, 1) := by decide +kernel
theorem dX4_indexAt_69 : decode cX4_indexAt 69 = .ok (.imul, 1) := by decide +kernel
theorem dX4_indexAt_70 : decode cX4_indexAt 70 = .ok (.iadd, 1) := by decide +kernel
theorem dX4_indexAt_71 : decode cX4_indexAt 71 = .ok (.istore 4, 2) := by decide +kernel
theorem dX4_indexAt_73 : decode cX4_indexAt 73 = .ok (.iinc 5 1, 3) := by decide +kernel
theorem dX4_indexAt_76 : decode cX4_indexAt 76 = .ok (.goto (-65), 3) := by decide +kernel
theorem dX4_indexAt_79 : decode cX4_indexAt 79 = .ok (.iconst (-1), 1) := by decide +kernel
theorem dX4_indexAt_80 : decode cX4_indexAt 80 = .ok (.ireturn, 1) := by decide +kernel
set_option maxRecDepth 20000 in
theorem ggX4_quotient_J9_floorDiv_7cf53 : GoodIn wsX4_quotient wsJ9_floorDiv_7cf53 := goodIn_r _ [4] (by decide +kernel) (by decide +kernel)
set_option maxRecDepth 20000 in
theorem gX4_quotient_J9_floorDiv_7cf53 : GoodIn wsX4_quotient (va_wsS RX4 160 yJ9_floorDiv_7cf53 wsJ9_floorDiv_7cf53) := goodIn_app (goodIn_of _ (by decide +kernel)) ggX4_quotient_J9_floorDiv_7cf53
theorem dX4_quotient_0 : decode cX4_quotient 0 = .ok (.iload_n 1, 1) := by decide +kernel
theorem dX4_quotient_1 : decode cX4_quotient 1 = .ok (.ifCond .le 11, 3) := by decide +kernel
theorem dX4_quotient_4 : decode cX4_quotient 4 = .ok (.iload_n 0, 1) := by decide +kernel
theorem dX4_quotient_5 : decode cX4_quotient 5 = .ok (.iload_n 1, 1) := by decide +kernel
theorem dX4_quotient_6 : decode cX4_quotient 6 = .ok (.invokestatic 160, 3) := by decide +kernel
theorem dX4_quotient_9 : decode cX4_quotient 9 = .ok (.goto 4, 3) := by decide +kernel
theorem dX4_quotient_12 : decode cX4_quotient 12 = .ok (.iconst 0, 1) := by decide +kernel
theorem dX4_quotient_13 : decode cX4_quotient 13 = .ok (.ireturn, 1) := by decide +kernel
theorem dX5_init_0 : decode cX5_init 0 = .ok (.aload_n 0, 1) := by decide +kernel
theorem dX5_init_1 : decode cX5_init 1 = .ok (.invokespecial 3, 3) := by decide +kernel
theorem dX5_init_4 : decode cX5_init 4 = .ok (.aload_n 0, 1) := by decide +kernel
theorem dX5_init_5 : decode cX5_init 5 = .ok (.bipush 60, 2) := by decide +kernel
theorem dX5_init_7 : decode cX5_init 7 = .ok (.newarray .char, 2) := by decide +kernel
theorem dX5_init_9 : decode cX5_init 9 = .ok (.putfield 9, 3) := by decide +kernel
theorem dX5_init_12 : decode cX5_init 12 = .ok (.aload_n 0, 1) := by decide +kernel
theorem dX5_init_13 : decode cX5_init 13 = .ok (.iconst 0, 1) := by decide +kernel
theorem dX5_init_14 : decode cX5_init 14 = .ok (.putfield 15, 3) := by decide +kernel
theorem dX5_init_17 : decode cX5_init 17 = .ok (.return_, 1) := by decide +kernel
theorem dX5_isFull_0 : decode cX5_isFull 0 = .ok (.aload_n 0, 1) := by decide +kernel
theorem dX5_isFull_1 : decode cX5_isFull 1 = .ok (.getfield 15, 3) := by decide +kernel
theorem dX5_isFull_4 : decode cX5_isFull 4 = .ok (.bipush 60, 2) := by decide +kernel
theorem dX5_isFull_6 : decode cX5_isFull 6 = .ok (.if_icmp .lt 7, 3) := by decide +kernel
theorem dX5_isFull_9 : decode cX5_isFull 9 = .ok (.iconst 1, 1) := by decide +kernel
theorem dX5_isFull_10 : decode cX5_isFull 10 = .ok (.goto 4, 3) := by decide +kernel
theorem dX5_isFull_13 : decode cX5_isFull 13 = .ok (.iconst 0, 1) := by decide +kernel
theorem dX5_isFull_14 : decode cX5_isFull 14 = .ok (.ireturn, 1) := by decide +kernel
theorem dX5_append_0 : decode cX5_append 0 = .ok (.aload_n 0, 1) := by decide +kernel
theorem dX5_append_1 : decode cX5_append 1 = .ok (.getfield 15, 3) := by decide +kernel
theorem dX5_append_4 : decode cX5_append 4 = .ok (.ifCond .lt 35, 3) := by decide +kernel
theorem dX5_append_7 : decode cX5_append 7 = .ok (.aload_n 0, 1) := by decide +kernel
theorem dX5_append_8 : decode cX5_append 8 = .ok (.getfield 15, 3) := by decide +kernel
theorem dX5_append_11 : decode cX5_append 11 = .ok (.aload_n 0, 1) := by decide +kernel
theorem dX5_append_12 : decode cX5_append 12 = .ok (.getfield 9, 3) := by decide +kernel
theorem dX5_append_15 : decode cX5_append 15 = .ok (.arraylength, 1) := by decide +kernel
theorem dX5_append_16 : decode cX5_append 16 = .ok (.if_icmp .ge 23, 3) := by decide +kernel
theorem dX5_append_19 : decode cX5_append 19 = .ok (.aload_n 0, 1) := by decide +kernel
theorem dX5_append_20 : decode cX5_append 20 = .ok (.getfield 9, 3) := by decide +kernel
theorem dX5_append_23 : decode cX5_append 23 = .ok (.aload_n 0, 1) := by decide +kernel
theorem dX5_append_24 : decode cX5_append 24 = .ok (.getfield 15, 3) := by decide +kernel
theorem dX5_append_27 : decode cX5_append 27 = .ok (.iload_n 1, 1) := by decide +kernel
theorem dX5_append_28 : decode cX5_append 28 = .ok (.castore, 1) := by decide +kernel
theorem dX5_append_29 : decode cX5_append 29 = .ok (.aload_n 0, 1) := by decide +kernel
theorem dX5_append_30 : decode cX5_append 30 = .ok (.dup, 1) := by decide +kernel
theorem dX5_append_31 : decode cX5_append 31 = .ok (.getfield 15, 3) := by decide +kernel
theorem dX5_append_34 : decode cX5_append 34 = .ok (.iconst 1, 1) := by decide +kernel
theorem dX5_append_35 : decode cX5_append 35 = .ok (.iadd, 1) := by decide +kernel
theorem dX5_append_36 : decode cX5_append 36 = .ok (.putfield 15, 3) := by decide +kernel
theorem dX5_append_39 : decode cX5_append 39 = .ok (.return_, 1) := by decide +kernel
theorem dX5_characterAt_0 : decode cX5_characterAt 0 = .ok (.iload_n 1, 1) := by decide +kernel
theorem dX5_characterAt_1 : decode cX5_characterAt 1 = .ok (.ifCond .lt 21, 3) := by decide +kernel
theorem dX5_characterAt_4 : decode cX5_characterAt 4 = .ok (.iload_n 1, 1) := by decide +kernel
theorem dX5_characterAt_5 : decode cX5_characterAt 5 = .ok (.aload_n 0, 1) := by decide +kernel
theorem dX5_characterAt_6 : decode cX5_characterAt 6 = .ok (.getfield 9, 3) := by decide +kernel
theorem dX5_characterAt_9 : decode cX5_characterAt 9 = .ok (.arraylength, 1) := by decide +kernel
theorem dX5_characterAt_10 : decode cX5_characterAt 10 = .ok (.if_icmp .ge 12, 3) := by decide +kernel
theorem dX5_characterAt_13 : decode cX5_characterAt 13 = .ok (.aload_n 0, 1) := by decide +kernel
theorem dX5_characterAt_14 : decode cX5_characterAt 14 = .ok (.getfield 9, 3) := by decide +kernel
theorem dX5_characterAt_17 : decode cX5_characterAt 17 = .ok (.iload_n 1, 1) := by decide +kernel
theorem dX5_characterAt_18 : decode cX5_characterAt 18 = .ok (.caload, 1) := by decide +kernel
theorem dX5_characterAt_19 : decode cX5_characterAt 19 = .ok (.goto 5, 3) := by decide +kernel
theorem dX5_characterAt_22 : decode cX5_characterAt 22 = .ok (.bipush 59, 2) := by decide +kernel
theorem dX5_characterAt_24 : decode cX5_characterAt 24 = .ok (.ireturn, 1) := by decide +kernel
set_option maxRecDepth 20000 in
theorem ggX5_namesInIt_X5_characterAt : GoodIn wsX5_namesInIt wsX5_characterAt := goodIn_r _ [6, 7, 8, 9] (by decide +kernel) (by decide +kernel)
set_option maxRecDepth 20000 in
theorem gX5_namesInIt_X5_characterAt : GoodIn wsX5_namesInIt (wsV RX5 19 RX5 yX5_characterAt wsX5_characterAt) := goodIn_app (goodIn_of _ (by decide +kernel)) ggX5_namesInIt_X5_characterAt
theorem dX5_namesInIt_0 : decode cX5_namesInIt 0 = .ok (.iconst 1, 1) := by decide +kernel
theorem dX5_namesInIt_1 : decode cX5_namesInIt 1 = .ok (.istore_n 1, 1) := by decide +kernel
theorem dX5_namesInIt_2 : decode cX5_namesInIt 2 = .ok (.iconst 0, 1) := by decide +kernel
theorem dX5_namesInIt_3 : decode cX5_namesInIt 3 = .ok (.istore_n 2, 1) := by decide +kernel
theorem dX5_namesInIt_4 : decode cX5_namesInIt 4 = .ok (.iload_n 2, 1) := by decide +kernel
theorem dX5_namesInIt_5 : decode cX5_namesInIt 5 = .ok (.aload_n 0, 1) := by decide +kernel
theorem dX5_namesInIt_6 : decode cX5_namesInIt 6 = .ok (.getfield 15, 3) := by decide +kernel
theorem dX5_namesInIt_9 : decode cX5_namesInIt 9 = .ok (.if_icmp .ge 22, 3) := by decide +kernel
theorem dX5_namesInIt_12 : decode cX5_namesInIt 12 = .ok (.aload_n 0, 1) := by decide +kernel
theorem dX5_namesInIt_13 : decode cX5_namesInIt 13 = .ok (.iload_n 2, 1) := by decide +kernel
theorem dX5_namesInIt_14 : decode cX5_namesInIt 14 = .ok (.invokevirtual 19, 3) := by decide +kernel
theorem dX5_namesInIt_17 : decode cX5_namesInIt 17 = .ok (.bipush 59, 2) := by decide +kernel
theorem dX5_namesInIt_19 : decode cX5_namesInIt 19 = .ok (.if_icmp .ne 6, 3) := by decide +kernel
theorem dX5_namesInIt_22 : decode cX5_namesInIt 22 = .ok (.iinc 1 1, 3) := by decide +kernel
theorem dX5_namesInIt_25 : decode cX5_namesInIt 25 = .ok (.iinc 2 1, 3) := by decide +kernel
theorem dX5_namesInIt_28 : decode cX5_namesInIt 28 = .ok (.goto (-24), 3) := by decide +kernel
theorem dX5_namesInIt_31 : decode cX5_namesInIt 31 = .ok (.iload_n 1, 1) := by decide +kernel
theorem dX5_namesInIt_32 : decode cX5_namesInIt 32 = .ok (.ireturn, 1) := by decide +kernel
set_option maxRecDepth 20000 in
theorem ggX5_fault_X5_characterAt : GoodIn wsX5_fault wsX5_characterAt := goodIn_r _ [6, 7, 18, 19] (by decide +kernel) (by decide +kernel)
set_option maxRecDepth 20000 in
theorem gX5_fault_X5_characterAt : GoodIn wsX5_fault (wsV RX5 19 RX5 yX5_characterAt wsX5_characterAt) := goodIn_app (goodIn_of _ (by decide +kernel)) ggX5_fault_X5_characterAt
set_option maxRecDepth 20000 in
theorem ggX5_fault_X5_isAllowed : GoodIn wsX5_fault wsX5_isAllowed := goodIn_r _ [10, 11, 12, 13, 14, 15, 16, 17] (by decide +kernel) (by decide +kernel)
set_option maxRecDepth 20000 in
theorem gX5_fault_X5_isAllowed : GoodIn wsX5_fault (va_wsS RX5 23 yX5_isAllowed wsX5_isAllowed) := goodIn_app (goodIn_of _ (by decide +kernel)) ggX5_fault_X5_isAllowed
set_option maxRecDepth 20000 in
theorem ggX5_fault_X3_isLetter : GoodIn wsX5_fault wsX3_isLetter := goodIn_r _ [14] (by decide +kernel) (by decide +kernel)
set_option maxRecDepth 20000 in
theorem gX5_fault_X3_isLetter : GoodIn wsX5_fault (va_wsS RX5 27 yX3_isLetter wsX3_isLetter) := goodIn_app (goodIn_of _ (by decide +kernel)) ggX5_fault_X3_isLetter
theorem dX5_fault_0 : decode cX5_fault 0 = .ok (.iconst 0, 1) := by decide +kernel
theorem dX5_fault_1 : decode cX5_fault 1 = .ok (.istore_n 1, 1) := by decide +kernel
theorem dX5_fault_2 : decode cX5_fault 2 = .ok (.iconst 0, 1) := by decide +kernel
theorem dX5_fault_3 : decode cX5_fault 3 = .ok (.istore_n 2, 1) := by decide +kernel
theorem dX5_fault_4 : decode cX5_fault 4 = .ok (.iconst 0, 1) := by decide +kernel
theorem dX5_fault_5 : decode cX5_fault 5 = .ok (.istore_n 3, 1) := by decide +kernel
theorem dX5_fault_6 : decode cX5_fault 6 = .ok (.iload_n 3, 1) := by decide +kernel
theorem dX5_fault_7 : decode cX5_fault 7 = .ok (.aload_n 0, 1) := by decide +kernel
theorem dX5_fault_8 : decode cX5_fault 8 = .ok (.getfield 15, 3) := by decide +kernel
theorem dX5_fault_11 : decode cX5_fault 11 = .ok (.if_icmp .ge 49, 3) := by decide +kernel
theorem dX5_fault_14 : decode cX5_fault 14 = .ok (.aload_n 0, 1) := by decide +kernel
theorem dX5_fault_15 : decode cX5_fault 15 = .ok (.iload_n 3, 1) := by decide +kernel
theorem dX5_fault_16 : decode cX5_fault 16 = .ok (.invokevirtual 19, 3) := by decide +kernel
theorem dX5_fault_19 : decode cX5_fault 19 = .ok (.istore 4, 2) := by decide +kernel
theorem dX5_fault_21 : decode cX5_fault 21 = .ok (.iload 4, 2) := by decide +kernel
theorem dX5_fault_23 : decode cX5_fault 23 = .ok (.iload_n 1, 1) := by decide +kernel
theorem dX5_fault_24 : decode cX5_fault 24 = .ok (.iload_n 2, 1) := by decide +kernel
theorem dX5_fault_25 : decode cX5_fault 25 = .ok (.invokestatic 23, 3) := by decide +kernel
theorem dX5_fault_28 : decode cX5_fault 28 = .ok (.ifCond .ne 5, 3) := by decide +kernel
theorem dX5_fault_31 : decode cX5_fault 31 = .ok (.iload_n 3, 1) := by decide +kernel
theorem dX5_fault_32 : decode cX5_fault 32 = .ok (.ireturn, 1) := by decide +kernel
theorem dX5_fault_33 : decode cX5_fault 33 = .ok (.iload 4, 2) := by decide +kernel
theorem dX5_fault_35 : decode cX5_fault 35 = .ok (.bipush 59, 2) := by decide +kernel
theorem dX5_fault_37 : decode cX5_fault 37 = .ok (.if_icmp .ne 7, 3) := by decide +kernel
theorem dX5_fault_40 : decode cX5_fault 40 = .ok (.iconst 0, 1) := by decide +kernel
theorem dX5_fault_41 : decode cX5_fault 41 = .ok (.goto 6, 3) := by decide +kernel
theorem dX5_fault_44 : decode cX5_fault 44 = .ok (.iload_n 1, 1) := by decide +kernel
theorem dX5_fault_45 : decode cX5_fault 45 = .ok (.iconst 1, 1) := by decide +kernel
theorem dX5_fault_46 : decode cX5_fault 46 = .ok (.iadd, 1) := by decide +kernel
theorem dX5_fault_47 : decode cX5_fault 47 = .ok (.istore_n 1, 1) := by decide +kernel
theorem dX5_fault_48 : decode cX5_fault 48 = .ok (.iload 4, 2) := by decide +kernel
theorem dX5_fault_50 : decode cX5_fault 50 = .ok (.invokestatic 27, 3) := by decide +kernel
theorem dX5_fault_53 : decode cX5_fault 53 = .ok (.istore_n 2, 1) := by decide +kernel
theorem dX5_fault_54 : decode cX5_fault 54 = .ok (.iinc 3 1, 3) := by decide +kernel
theorem dX5_fault_57 : decode cX5_fault 57 = .ok (.goto (-51), 3) := by decide +kernel
theorem dX5_fault_60 : decode cX5_fault 60 = .ok (.iload_n 2, 1) := by decide +kernel
theorem dX5_fault_61 : decode cX5_fault 61 = .ok (.ifCond .eq 7, 3) := by decide +kernel
theorem dX5_fault_64 : decode cX5_fault 64 = .ok (.iconst (-1), 1) := by decide +kernel
theorem dX5_fault_65 : decode cX5_fault 65 = .ok (.goto 7, 3) := by decide +kernel
theorem dX5_fault_68 : decode cX5_fault 68 = .ok (.aload_n 0, 1) := by decide +kernel
theorem dX5_fault_69 : decode cX5_fault 69 = .ok (.getfield 15, 3) := by decide +kernel
theorem dX5_fault_72 : decode cX5_fault 72 = .ok (.ireturn, 1) := by decide +kernel
set_option maxRecDepth 20000 in
theorem ggX5_isAllowed_X3_isLetter : GoodIn wsX5_isAllowed wsX3_isLetter := goodIn_r _ [4] (by decide +kernel) (by decide +kernel)
set_option maxRecDepth 20000 in
theorem gX5_isAllowed_X3_isLetter : GoodIn wsX5_isAllowed (va_wsS RX5 27 yX3_isLetter wsX3_isLetter) := goodIn_app (goodIn_of _ (by decide +kernel)) ggX5_isAllowed_X3_isLetter
set_option maxRecDepth 20000 in
theorem ggX5_isAllowed_X3_isMark : GoodIn wsX5_isAllowed wsX3_isMark := goodIn_r _ [7] (by decide +kernel) (by decide +kernel)
set_option maxRecDepth 20000 in
theorem gX5_isAllowed_X3_isMark : GoodIn wsX5_isAllowed (va_wsS RX5 33 yX3_isMark wsX3_isMark) := goodIn_app (goodIn_of _ (by decide +kernel)) ggX5_isAllowed_X3_isMark
theorem dX5_isAllowed_0 : decode cX5_isAllowed 0 = .ok (.iload_n 0, 1) := by decide +kernel
theorem dX5_isAllowed_1 : decode cX5_isAllowed 1 = .ok (.bipush 59, 2) := by decide +kernel
theorem dX5_isAllowed_3 : decode cX5_isAllowed 3 = .ok (.if_icmp .ne 5, 3) := by decide +kernel
theorem dX5_isAllowed_6 : decode cX5_isAllowed 6 = .ok (.iload_n 2, 1) := by decide +kernel
theorem dX5_isAllowed_7 : decode cX5_isAllowed 7 = .ok (.ireturn, 1) := by decide +kernel
theorem dX5_isAllowed_8 : decode cX5_isAllowed 8 = .ok (.iload_n 1, 1) := by decide +kernel
theorem dX5_isAllowed_9 : decode cX5_isAllowed 9 = .ok (.bipush 16, 2) := by decide +kernel
theorem dX5_isAllowed_11 : decode cX5_isAllowed 11 = .ok (.if_icmp .lt 5, 3) := by decide +kernel
theorem dX5_isAllowed_14 : decode cX5_isAllowed 14 = .ok (.iconst 0, 1) := by decide +kernel
theorem dX5_isAllowed_15 : decode cX5_isAllowed 15 = .ok (.ireturn, 1) := by decide +kernel
theorem dX5_isAllowed_16 : decode cX5_isAllowed 16 = .ok (.iload_n 0, 1) := by decide +kernel
theorem dX5_isAllowed_17 : decode cX5_isAllowed 17 = .ok (.invokestatic 27, 3) := by decide +kernel
theorem dX5_isAllowed_20 : decode cX5_isAllowed 20 = .ok (.ifCond .ne 14, 3) := by decide +kernel
theorem dX5_isAllowed_23 : decode cX5_isAllowed 23 = .ok (.iload_n 2, 1) := by decide +kernel
theorem dX5_isAllowed_24 : decode cX5_isAllowed 24 = .ok (.ifCond .eq 14, 3) := by decide +kernel
theorem dX5_isAllowed_27 : decode cX5_isAllowed 27 = .ok (.iload_n 0, 1) := by decide +kernel
theorem dX5_isAllowed_28 : decode cX5_isAllowed 28 = .ok (.invokestatic 33, 3) := by decide +kernel
theorem dX5_isAllowed_31 : decode cX5_isAllowed 31 = .ok (.ifCond .eq 7, 3) := by decide +kernel
theorem dX5_isAllowed_34 : decode cX5_isAllowed 34 = .ok (.iconst 1, 1) := by decide +kernel
theorem dX5_isAllowed_35 : decode cX5_isAllowed 35 = .ok (.goto 4, 3) := by decide +kernel
theorem dX5_isAllowed_38 : decode cX5_isAllowed 38 = .ok (.iconst 0, 1) := by decide +kernel
theorem dX5_isAllowed_39 : decode cX5_isAllowed 39 = .ok (.ireturn, 1) := by decide +kernel
set_option maxRecDepth 20000 in
theorem ggX6_init_X4_init : GoodIn wsX6_init wsX4_init := goodIn_r _ [19, 20, 2, 3, 21, 22, 23, 24, 25, 26, 27, 28, 29, 30, 31, 32, 33, 34, 35, 36, 37, 38, 39, 40, 41, 42, 43, 44, 45, 46, 47, 48, 49, 50, 51, 85, 86, 87, 65, 66, 67, 68, 69, 70, 71, 72, 73, 74, 88, 89, 90, 91] (by decide +kernel) (by decide +kernel)
set_option maxRecDepth 20000 in
theorem gX6_init_X4_init_n9 : GoodIn wsX6_init (wsX4_init) := ggX6_init_X4_init
set_option maxRecDepth 20000 in
theorem ggX6_init_X0_init : GoodIn wsX6_init wsX0_init := goodIn_r _ [54, 55, 2, 3, 56, 57, 58, 59, 5, 6, 18, 19, 20, 21, 22, 23, 24, 25, 26, 27, 28, 29, 30, 31, 32, 33, 34, 35, 36, 37, 38, 39, 40, 41, 42, 43, 44, 45, 46, 47, 48, 49, 50, 51, 80, 81, 82, 65, 66, 67, 68, 69, 70, 71, 72, 73, 74, 85, 86, 87, 88, 89, 90, 91] (by decide +kernel) (by decide +kernel)
set_option maxRecDepth 20000 in
theorem gX6_init_X0_init : GoodIn wsX6_init (wsX0_init) := ggX6_init_X0_init
end
section
set_option maxRecDepth 20000 in
theorem ggX6_init_X5_init : GoodIn wsX6_init wsX5_init := goodIn_r _ [61, 62, 2, 3, 40, 63, 64, 83, 84] (by decide +kernel) (by decide +kernel)
set_option maxRecDepth 20000 in
theorem gX6_init_X5_init_n28 : GoodIn wsX6_init (wsX5_init) := ggX6_init_X5_init
theorem dX6_init_0 : decode cX6_init 0 = .ok (.aload_n 0, 1) := by decide +kernel
theorem dX6_init_1 : decode cX6_init 1 = .ok (.invokespecial 1, 3) := by decide +kernel
theorem dX6_init_4 : decode cX6_init 4 = .ok (.aload_n 0, 1) := by decide +kernel
theorem dX6_init_5 : decode cX6_init 5 = .ok (.new 7, 3) := by decide +kernel
theorem dX6_init_8 : decode cX6_init 8 = .ok (.dup, 1) := by decide +kernel
theorem dX6_init_9 : decode cX6_init 9 = .ok (.invokespecial 9, 3) := by decide +kernel
theorem dX6_init_12 : decode cX6_init 12 = .ok (.putfield 10, 3) := by decide +kernel
theorem dX6_init_15 : decode cX6_init 15 = .ok (.aload_n 0, 1) := by decide +kernel
theorem dX6_init_16 : decode cX6_init 16 = .ok (.new 7, 3) := by decide +kernel
theorem dX6_init_19 : decode cX6_init 19 = .ok (.dup, 1) := by decide +kernel
theorem dX6_init_20 : decode cX6_init 20 = .ok (.invokespecial 9, 3) := by decide +kernel
theorem dX6_init_23 : decode cX6_init 23 = .ok (.putfield 16, 3) := by decide +kernel
theorem dX6_init_26 : decode cX6_init 26 = .ok (.aload_n 0, 1) := by decide +kernel
theorem dX6_init_27 : decode cX6_init 27 = .ok (.new 19, 3) := by decide +kernel
theorem dX6_init_30 : decode cX6_init 30 = .ok (.dup, 1) := by decide +kernel
theorem dX6_init_31 : decode cX6_init 31 = .ok (.invokespecial 21, 3) := by decide +kernel
theorem dX6_init_34 : decode cX6_init 34 = .ok (.putfield 22, 3) := by decide +kernel
theorem dX6_init_37 : decode cX6_init 37 = .ok (.aload_n 0, 1) := by decide +kernel
theorem dX6_init_38 : decode cX6_init 38 = .ok (.new 26, 3) := by decide +kernel
theorem dX6_init_41 : decode cX6_init 41 = .ok (.dup, 1) := by decide +kernel
theorem dX6_init_42 : decode cX6_init 42 = .ok (.invokespecial 28, 3) := by decide +kernel
theorem dX6_init_45 : decode cX6_init 45 = .ok (.putfield 29, 3) := by decide +kernel
theorem dX6_init_48 : decode cX6_init 48 = .ok (.aload_n 0, 1) := by decide +kernel
theorem dX6_init_49 : decode cX6_init 49 = .ok (.iconst 0, 1) := by decide +kernel
theorem dX6_init_50 : decode cX6_init 50 = .ok (.putfield 33, 3) := by decide +kernel
theorem dX6_init_53 : decode cX6_init 53 = .ok (.return_, 1) := by decide +kernel
set_option maxRecDepth 20000 in
theorem ggX6_recut_X6_isPlate : GoodIn wsX6_recut wsX6_isPlate := goodIn_r _ [6] (by decide +kernel) (by decide +kernel)
set_option maxRecDepth 20000 in
theorem gX6_recut_X6_isPlate : GoodIn wsX6_recut (va_wsS RX6 37 yX6_isPlate wsX6_isPlate) := goodIn_app (goodIn_of _ (by decide +kernel)) ggX6_recut_X6_isPlate
set_option maxRecDepth 20000 in
theorem ggX6_recut_X0_record : GoodIn wsX6_recut wsX0_record := goodIn_r _ [11, 12, 13, 14, 15, 16, 10, 17, 18, 19, 20, 21, 22, 23, 24, 25, 26, 27, 28, 29, 30, 31, 32, 33, 34, 35, 36, 37, 38, 39, 40, 41, 42, 43, 44, 45, 46, 47, 48, 49, 50, 51, 52, 53, 54, 55, 76, 77, 78, 79, 80, 81, 82, 83, 84, 85, 86, 87, 88, 89, 90, 91, 92, 93, 94, 95] (by decide +kernel) (by decide +kernel)
set_option maxRecDepth 20000 in
theorem gX6_recut_X0_record : GoodIn wsX6_recut (wsV RX6 41 RX0 yX0_record wsX0_record) := goodIn_app (goodIn_of _ (by decide +kernel)) ggX6_recut_X0_record
set_option maxRecDepth 20000 in
theorem ggX6_recut_X4_cutAnew : GoodIn wsX6_recut wsX4_cutAnew := goodIn_r _ [59, 26, 27, 30, 32, 33, 60, 61, 62, 22, 63, 64, 65, 66, 67, 68, 69, 70, 79, 80, 81, 82, 83, 84, 85, 86, 87, 88] (by decide +kernel) (by decide +kernel)
set_option maxRecDepth 20000 in
theorem gX6_recut_X4_cutAnew : GoodIn wsX6_recut (wsV RX6 45 RX4 yX4_cutAnew wsX4_cutAnew) := goodIn_app (goodIn_of _ (by decide +kernel)) ggX6_recut_X4_cutAnew
theorem dX6_recut_0 : decode cX6_recut 0 = .ok (.iload_n 1, 1) := by decide +kernel
theorem dX6_recut_1 : decode cX6_recut 1 = .ok (.iload_n 2, 1) := by decide +kernel
theorem dX6_recut_2 : decode cX6_recut 2 = .ok (.invokestatic 37, 3) := by decide +kernel
theorem dX6_recut_5 : decode cX6_recut 5 = .ok (.ifCond .ne 7, 3) := by decide +kernel
theorem dX6_recut_8 : decode cX6_recut 8 = .ok (.sipush (-1002), 3) := by decide +kernel
theorem dX6_recut_11 : decode cX6_recut 11 = .ok (.ireturn, 1) := by decide +kernel
theorem dX6_recut_12 : decode cX6_recut 12 = .ok (.aload_n 0, 1) := by decide +kernel
theorem dX6_recut_13 : decode cX6_recut 13 = .ok (.getfield 22, 3) := by decide +kernel
theorem dX6_recut_16 : decode cX6_recut 16 = .ok (.aload_n 0, 1) := by decide +kernel
theorem dX6_recut_17 : decode cX6_recut 17 = .ok (.getfield 10, 3) := by decide +kernel
theorem dX6_recut_20 : decode cX6_recut 20 = .ok (.invokevirtual 41, 3) := by decide +kernel
theorem dX6_recut_23 : decode cX6_recut 23 = .ok (.aload_n 0, 1) := by decide +kernel
theorem dX6_recut_24 : decode cX6_recut 24 = .ok (.getfield 10, 3) := by decide +kernel
theorem dX6_recut_27 : decode cX6_recut 27 = .ok (.iload_n 1, 1) := by decide +kernel
theorem dX6_recut_28 : decode cX6_recut 28 = .ok (.iload_n 2, 1) := by decide +kernel
theorem dX6_recut_29 : decode cX6_recut 29 = .ok (.invokevirtual 45, 3) := by decide +kernel
theorem dX6_recut_32 : decode cX6_recut 32 = .ok (.ireturn, 1) := by decide +kernel
set_option maxRecDepth 20000 in
theorem ggX6_setMargin_X4_hasEngraved : GoodIn wsX6_setMargin wsX4_hasEngraved := goodIn_r _ [7, 8, 61, 62, 63, 64, 65, 66, 67, 68, 69, 70] (by decide +kernel) (by decide +kernel)
set_option maxRecDepth 20000 in
theorem gX6_setMargin_X4_hasEngraved : GoodIn wsX6_setMargin (wsV RX6 49 RX4 yX4_hasEngraved wsX4_hasEngraved) := goodIn_app (goodIn_of _ (by decide +kernel)) ggX6_setMargin_X4_hasEngraved
set_option maxRecDepth 20000 in
theorem ggX6_setMargin_X0_record : GoodIn wsX6_setMargin wsX0_record := goodIn_r _ [13, 14, 15, 16, 17, 18, 12, 19, 20, 21, 22, 23, 6, 24, 25, 26, 27, 28, 29, 30, 8, 31, 32, 33, 34, 35, 36, 37, 38, 39, 40, 41, 42, 43, 44, 45, 46, 47, 48, 49, 50, 51, 52, 53, 54, 55, 71, 72, 73, 61, 62, 63, 64, 65, 66, 67, 68, 69, 70, 74, 75, 76, 77, 78, 79, 80] (by decide +kernel) (by decide +kernel)
set_option maxRecDepth 20000 in
theorem gX6_setMargin_X0_record : GoodIn wsX6_setMargin (wsV RX6 41 RX0 yX0_record wsX0_record) := goodIn_app (goodIn_of _ (by decide +kernel)) ggX6_setMargin_X0_record
theorem dX6_setMargin_0 : decode cX6_setMargin 0 = .ok (.iload_n 1, 1) := by decide +kernel
theorem dX6_setMargin_1 : decode cX6_setMargin 1 = .ok (.ifCond .lt 9, 3) := by decide +kernel
theorem dX6_setMargin_4 : decode cX6_setMargin 4 = .ok (.iload_n 1, 1) := by decide +kernel
theorem dX6_setMargin_5 : decode cX6_setMargin 5 = .ok (.bipush 100, 2) := by decide +kernel
theorem dX6_setMargin_7 : decode cX6_setMargin 7 = .ok (.if_icmp .le 7, 3) := by decide +kernel
theorem dX6_setMargin_10 : decode cX6_setMargin 10 = .ok (.sipush (-1002), 3) := by decide +kernel
theorem dX6_setMargin_13 : decode cX6_setMargin 13 = .ok (.ireturn, 1) := by decide +kernel
theorem dX6_setMargin_14 : decode cX6_setMargin 14 = .ok (.aload_n 0, 1) := by decide +kernel
theorem dX6_setMargin_15 : decode cX6_setMargin 15 = .ok (.getfield 10, 3) := by decide +kernel
theorem dX6_setMargin_18 : decode cX6_setMargin 18 = .ok (.invokevirtual 49, 3) := by decide +kernel
theorem dX6_setMargin_21 : decode cX6_setMargin 21 = .ok (.ifCond .eq 7, 3) := by decide +kernel
theorem dX6_setMargin_24 : decode cX6_setMargin 24 = .ok (.sipush (-1004), 3) := by decide +kernel
theorem dX6_setMargin_27 : decode cX6_setMargin 27 = .ok (.ireturn, 1) := by decide +kernel
theorem dX6_setMargin_28 : decode cX6_setMargin 28 = .ok (.aload_n 0, 1) := by decide +kernel
theorem dX6_setMargin_29 : decode cX6_setMargin 29 = .ok (.getfield 10, 3) := by decide +kernel
theorem dX6_setMargin_32 : decode cX6_setMargin 32 = .ok (.getfield 53, 3) := by decide +kernel
theorem dX6_setMargin_35 : decode cX6_setMargin 35 = .ok (.istore_n 2, 1) := by decide +kernel
theorem dX6_setMargin_36 : decode cX6_setMargin 36 = .ok (.iload_n 2, 1) := by decide +kernel
theorem dX6_setMargin_37 : decode cX6_setMargin 37 = .ok (.iload_n 1, 1) := by decide +kernel
theorem dX6_setMargin_38 : decode cX6_setMargin 38 = .ok (.if_icmp .ne 7, 3) := by decide +kernel
theorem dX6_setMargin_41 : decode cX6_setMargin 41 = .ok (.sipush (-1005), 3) := by decide +kernel
theorem dX6_setMargin_44 : decode cX6_setMargin 44 = .ok (.ireturn, 1) := by decide +kernel
theorem dX6_setMargin_45 : decode cX6_setMargin 45 = .ok (.aload_n 0, 1) := by decide +kernel
theorem dX6_setMargin_46 : decode cX6_setMargin 46 = .ok (.getfield 22, 3) := by decide +kernel
theorem dX6_setMargin_49 : decode cX6_setMargin 49 = .ok (.aload_n 0, 1) := by decide +kernel
theorem dX6_setMargin_50 : decode cX6_setMargin 50 = .ok (.getfield 10, 3) := by decide +kernel
theorem dX6_setMargin_53 : decode cX6_setMargin 53 = .ok (.invokevirtual 41, 3) := by decide +kernel
theorem dX6_setMargin_56 : decode cX6_setMargin 56 = .ok (.aload_n 0, 1) := by decide +kernel
theorem dX6_setMargin_57 : decode cX6_setMargin 57 = .ok (.getfield 10, 3) := by decide +kernel
theorem dX6_setMargin_60 : decode cX6_setMargin 60 = .ok (.iload_n 1, 1) := by decide +kernel
theorem dX6_setMargin_61 : decode cX6_setMargin 61 = .ok (.putfield 53, 3) := by decide +kernel
theorem dX6_setMargin_64 : decode cX6_setMargin 64 = .ok (.iload_n 2, 1) := by decide +kernel
theorem dX6_setMargin_65 : decode cX6_setMargin 65 = .ok (.ireturn, 1) := by decide +kernel
set_option maxRecDepth 20000 in
theorem ggX6_setColumns_X4_hasEngraved : GoodIn wsX6_setColumns wsX4_hasEngraved := goodIn_r _ [7, 8, 61, 62, 63, 64, 65, 66, 67, 68, 69, 70] (by decide +kernel) (by decide +kernel)
set_option maxRecDepth 20000 in
theorem gX6_setColumns_X4_hasEngraved : GoodIn wsX6_setColumns (wsV RX6 49 RX4 yX4_hasEngraved wsX4_hasEngraved) := goodIn_app (goodIn_of _ (by decide +kernel)) ggX6_setColumns_X4_hasEngraved
set_option maxRecDepth 20000 in
theorem ggX6_setColumns_X0_record : GoodIn wsX6_setColumns wsX0_record := goodIn_r _ [13, 14, 15, 16, 17, 18, 12, 19, 20, 21, 22, 23, 6, 24, 25, 26, 27, 28, 29, 30, 8, 31, 32, 33, 34, 35, 36, 37, 38, 39, 40, 41, 42, 43, 44, 45, 46, 47, 48, 49, 50, 51, 52, 53, 54, 55, 71, 72, 73, 61, 62, 63, 64, 65, 66, 67, 68, 69, 70, 74, 75, 76, 77, 78, 79, 80] (by decide +kernel) (by decide +kernel)
set_option maxRecDepth 20000 in
theorem gX6_setColumns_X0_record : GoodIn wsX6_setColumns (wsV RX6 41 RX0 yX0_record wsX0_record) := goodIn_app (goodIn_of _ (by decide +kernel)) ggX6_setColumns_X0_record
theorem dX6_setColumns_0 : decode cX6_setColumns 0 = .ok (.iload_n 1, 1) := by decide +kernel
theorem dX6_setColumns_1 : decode cX6_setColumns 1 = .ok (.iconst 1, 1) := by decide +kernel
theorem dX6_setColumns_2 : decode cX6_setColumns 2 = .ok (.if_icmp .lt 8, 3) := by decide +kernel
theorem dX6_setColumns_5 : decode cX6_setColumns 5 = .ok (.iload_n 1, 1) := by decide +kernel
theorem dX6_setColumns_6 : decode cX6_setColumns 6 = .ok (.iconst 3, 1) := by decide +kernel
theorem dX6_setColumns_7 : decode cX6_setColumns 7 = .ok (.if_icmp .le 7, 3) := by decide +kernel
theorem dX6_setColumns_10 : decode cX6_setColumns 10 = .ok (.sipush (-1002), 3) := by decide +kernel
theorem dX6_setColumns_13 : decode cX6_setColumns 13 = .ok (.ireturn, 1) := by decide +kernel
theorem dX6_setColumns_14 : decode cX6_setColumns 14 = .ok (.aload_n 0, 1) := by decide +kernel
theorem dX6_setColumns_15 : decode cX6_setColumns 15 = .ok (.getfield 10, 3) := by decide +kernel
theorem dX6_setColumns_18 : decode cX6_setColumns 18 = .ok (.invokevirtual 49, 3) := by decide +kernel
theorem dX6_setColumns_21 : decode cX6_setColumns 21 = .ok (.ifCond .eq 7, 3) := by decide +kernel
theorem dX6_setColumns_24 : decode cX6_setColumns 24 = .ok (.sipush (-1004), 3) := by decide +kernel
theorem dX6_setColumns_27 : decode cX6_setColumns 27 = .ok (.ireturn, 1) := by decide +kernel
theorem dX6_setColumns_28 : decode cX6_setColumns 28 = .ok (.aload_n 0, 1) := by decide +kernel
theorem dX6_setColumns_29 : decode cX6_setColumns 29 = .ok (.getfield 10, 3) := by decide +kernel
theorem dX6_setColumns_32 : decode cX6_setColumns 32 = .ok (.getfield 57, 3) := by decide +kernel
theorem dX6_setColumns_35 : decode cX6_setColumns 35 = .ok (.istore_n 2, 1) := by decide +kernel
theorem dX6_setColumns_36 : decode cX6_setColumns 36 = .ok (.iload_n 2, 1) := by decide +kernel
theorem dX6_setColumns_37 : decode cX6_setColumns 37 = .ok (.iload_n 1, 1) := by decide +kernel
theorem dX6_setColumns_38 : decode cX6_setColumns 38 = .ok (.if_icmp .ne 7, 3) := by decide +kernel
theorem dX6_setColumns_41 : decode cX6_setColumns 41 = .ok (.sipush (-1005), 3) := by decide +kernel
theorem dX6_setColumns_44 : decode cX6_setColumns 44 = .ok (.ireturn, 1) := by decide +kernel
theorem dX6_setColumns_45 : decode cX6_setColumns 45 = .ok (.aload_n 0, 1) := by decide +kernel
theorem dX6_setColumns_46 : decode cX6_setColumns 46 = .ok (.getfield 22, 3) := by decide +kernel
theorem dX6_setColumns_49 : decode cX6_setColumns 49 = .ok (.aload_n 0, 1) := by decide +kernel
theorem dX6_setColumns_50 : decode cX6_setColumns 50 = .ok (.getfield 10, 3) := by decide +kernel
theorem dX6_setColumns_53 : decode cX6_setColumns 53 = .ok (.invokevirtual 41, 3) := by decide +kernel
theorem dX6_setColumns_56 : decode cX6_setColumns 56 = .ok (.aload_n 0, 1) := by decide +kernel
theorem dX6_setColumns_57 : decode cX6_setColumns 57 = .ok (.getfield 10, 3) := by decide +kernel
theorem dX6_setColumns_60 : decode cX6_setColumns 60 = .ok (.iload_n 1, 1) := by decide +kernel
theorem dX6_setColumns_61 : decode cX6_setColumns 61 = .ok (.putfield 57, 3) := by decide +kernel
theorem dX6_setColumns_64 : decode cX6_setColumns 64 = .ok (.iload_n 2, 1) := by decide +kernel
theorem dX6_setColumns_65 : decode cX6_setColumns 65 = .ok (.ireturn, 1) := by decide +kernel
set_option maxRecDepth 20000 in
theorem ggX6_adjust_X3_isKnown : GoodIn wsX6_adjust wsX3_isKnown := goodIn_r _ [6, 7, 8, 5, 9, 10, 11, 12] (by decide +kernel) (by decide +kernel)
set_option maxRecDepth 20000 in
theorem gX6_adjust_X3_isKnown : GoodIn wsX6_adjust (va_wsS RX6 60 yX3_isKnown wsX3_isKnown) := goodIn_app (goodIn_of _ (by decide +kernel)) ggX6_adjust_X3_isKnown
set_option maxRecDepth 20000 in
theorem ggX6_adjust_X4_isEngravedPair : GoodIn wsX6_adjust wsX4_isEngravedPair := goodIn_r _ [17, 18, 19, 20, 21, 16, 22, 23, 24, 25, 26, 27, 28, 29, 30, 31, 32, 33, 34, 35, 36, 37, 38, 120, 121, 122, 123, 124, 125, 126, 127, 128, 129, 130, 131, 132] (by decide +kernel) (by decide +kernel)
set_option maxRecDepth 20000 in
theorem gX6_adjust_X4_isEngravedPair : GoodIn wsX6_adjust (wsV RX6 66 RX4 yX4_isEngravedPair wsX4_isEngravedPair) := goodIn_app (goodIn_of _ (by decide +kernel)) ggX6_adjust_X4_isEngravedPair
set_option maxRecDepth 20000 in
theorem ggX6_adjust_X4_adjustmentOf : GoodIn wsX6_adjust wsX4_adjustmentOf := goodIn_r _ [42, 43, 44, 45, 46, 47, 48, 49, 50, 51, 52, 53, 54, 55, 56, 120, 121, 122, 123, 124, 125, 126, 127, 128, 129, 133, 134, 135, 136] (by decide +kernel) (by decide +kernel)
set_option maxRecDepth 20000 in
theorem gX6_adjust_X4_adjustmentOf : GoodIn wsX6_adjust (wsV RX6 70 RX4 yX4_adjustmentOf wsX4_adjustmentOf) := goodIn_app (goodIn_of _ (by decide +kernel)) ggX6_adjust_X4_adjustmentOf
set_option maxRecDepth 20000 in
theorem ggX6_adjust_X2_isFull : GoodIn wsX6_adjust wsX2_isFull := goodIn_r _ [60, 49, 133, 134, 135, 136] (by decide +kernel) (by decide +kernel)
set_option maxRecDepth 20000 in
theorem gX6_adjust_X2_isFull : GoodIn wsX6_adjust (wsV RX6 78 RX2 yX2_isFull wsX2_isFull) := goodIn_app (goodIn_of _ (by decide +kernel)) ggX6_adjust_X2_isFull
set_option maxRecDepth 20000 in
theorem ggX6_adjust_X0_record : GoodIn wsX6_adjust wsX0_record := goodIn_r _ [65, 66, 67, 68, 69, 70, 64, 71, 72, 73, 74, 75, 16, 76, 18, 43, 77, 78, 79, 80, 23, 81, 82, 83, 84, 85, 86, 31, 87, 38, 88, 89, 90, 91, 33, 92, 93, 94, 95, 47, 96, 50, 97, 51, 56, 49, 137, 138, 139, 120, 121, 122, 123, 124, 125, 126, 127, 128, 129, 130, 131, 132, 133, 134, 135, 136] (by decide +kernel) (by decide +kernel)
set_option maxRecDepth 20000 in
theorem gX6_adjust_X0_record : GoodIn wsX6_adjust (wsV RX6 41 RX0 yX0_record wsX0_record) := goodIn_app (goodIn_of _ (by decide +kernel)) ggX6_adjust_X0_record
set_option maxRecDepth 20000 in
theorem ggX6_adjust_X2_put : GoodIn wsX6_adjust wsX2_put := goodIn_r _ [101, 56, 102, 45, 46, 47, 48, 49, 50, 51, 103, 104, 105, 106, 107, 108, 109, 110, 111, 112, 113, 114, 133, 134, 135, 136] (by decide +kernel) (by decide +kernel)
set_option maxRecDepth 20000 in
theorem gX6_adjust_X2_put : GoodIn wsX6_adjust (wsV RX6 83 RX2 yX2_put wsX2_put) := goodIn_app (goodIn_of _ (by decide +kernel)) ggX6_adjust_X2_put
theorem dX6_adjust_0 : decode cX6_adjust 0 = .ok (.iload_n 1, 1) := by decide +kernel
theorem dX6_adjust_1 : decode cX6_adjust 1 = .ok (.invokestatic 60, 3) := by decide +kernel
theorem dX6_adjust_4 : decode cX6_adjust 4 = .ok (.ifCond .eq 10, 3) := by decide +kernel
theorem dX6_adjust_7 : decode cX6_adjust 7 = .ok (.iload_n 2, 1) := by decide +kernel
theorem dX6_adjust_8 : decode cX6_adjust 8 = .ok (.invokestatic 60, 3) := by decide +kernel
theorem dX6_adjust_11 : decode cX6_adjust 11 = .ok (.ifCond .ne 7, 3) := by decide +kernel
theorem dX6_adjust_14 : decode cX6_adjust 14 = .ok (.sipush (-1001), 3) := by decide +kernel
theorem dX6_adjust_17 : decode cX6_adjust 17 = .ok (.ireturn, 1) := by decide +kernel
theorem dX6_adjust_18 : decode cX6_adjust 18 = .ok (.iload_n 3, 1) := by decide +kernel
theorem dX6_adjust_19 : decode cX6_adjust 19 = .ok (.bipush (-3), 2) := by decide +kernel
theorem dX6_adjust_21 : decode cX6_adjust 21 = .ok (.if_icmp .lt 8, 3) := by decide +kernel
theorem dX6_adjust_24 : decode cX6_adjust 24 = .ok (.iload_n 3, 1) := by decide +kernel
theorem dX6_adjust_25 : decode cX6_adjust 25 = .ok (.iconst 3, 1) := by decide +kernel
theorem dX6_adjust_26 : decode cX6_adjust 26 = .ok (.if_icmp .le 7, 3) := by decide +kernel
theorem dX6_adjust_29 : decode cX6_adjust 29 = .ok (.sipush (-1002), 3) := by decide +kernel
theorem dX6_adjust_32 : decode cX6_adjust 32 = .ok (.ireturn, 1) := by decide +kernel
theorem dX6_adjust_33 : decode cX6_adjust 33 = .ok (.aload_n 0, 1) := by decide +kernel
theorem dX6_adjust_34 : decode cX6_adjust 34 = .ok (.getfield 10, 3) := by decide +kernel
theorem dX6_adjust_37 : decode cX6_adjust 37 = .ok (.iload_n 1, 1) := by decide +kernel
theorem dX6_adjust_38 : decode cX6_adjust 38 = .ok (.iload_n 2, 1) := by decide +kernel
theorem dX6_adjust_39 : decode cX6_adjust 39 = .ok (.invokevirtual 66, 3) := by decide +kernel
theorem dX6_adjust_42 : decode cX6_adjust 42 = .ok (.ifCond .eq 7, 3) := by decide +kernel
theorem dX6_adjust_45 : decode cX6_adjust 45 = .ok (.sipush (-1004), 3) := by decide +kernel
theorem dX6_adjust_48 : decode cX6_adjust 48 = .ok (.ireturn, 1) := by decide +kernel
theorem dX6_adjust_49 : decode cX6_adjust 49 = .ok (.aload_n 0, 1) := by decide +kernel
theorem dX6_adjust_50 : decode cX6_adjust 50 = .ok (.getfield 10, 3) := by decide +kernel
theorem dX6_adjust_53 : decode cX6_adjust 53 = .ok (.iload_n 1, 1) := by decide +kernel
theorem dX6_adjust_54 : decode cX6_adjust 54 = .ok (.iload_n 2, 1) := by decide +kernel
theorem dX6_adjust_55 : decode cX6_adjust 55 = .ok (.invokevirtual 70, 3) := by decide +kernel
theorem dX6_adjust_58 : decode cX6_adjust 58 = .ok (.istore 4, 2) := by decide +kernel
theorem dX6_adjust_60 : decode cX6_adjust 60 = .ok (.iload 4, 2) := by decide +kernel
theorem dX6_adjust_62 : decode cX6_adjust 62 = .ok (.iload_n 3, 1) := by decide +kernel
theorem dX6_adjust_63 : decode cX6_adjust 63 = .ok (.if_icmp .ne 7, 3) := by decide +kernel
theorem dX6_adjust_66 : decode cX6_adjust 66 = .ok (.sipush (-1005), 3) := by decide +kernel
theorem dX6_adjust_69 : decode cX6_adjust 69 = .ok (.ireturn, 1) := by decide +kernel
theorem dX6_adjust_70 : decode cX6_adjust 70 = .ok (.iload 4, 2) := by decide +kernel
theorem dX6_adjust_72 : decode cX6_adjust 72 = .ok (.ifCond .ne 20, 3) := by decide +kernel
theorem dX6_adjust_75 : decode cX6_adjust 75 = .ok (.aload_n 0, 1) := by decide +kernel
theorem dX6_adjust_76 : decode cX6_adjust 76 = .ok (.getfield 10, 3) := by decide +kernel
theorem dX6_adjust_79 : decode cX6_adjust 79 = .ok (.getfield 74, 3) := by decide +kernel
theorem dX6_adjust_82 : decode cX6_adjust 82 = .ok (.invokevirtual 78, 3) := by decide +kernel
theorem dX6_adjust_85 : decode cX6_adjust 85 = .ok (.ifCond .eq 7, 3) := by decide +kernel
theorem dX6_adjust_88 : decode cX6_adjust 88 = .ok (.sipush (-1003), 3) := by decide +kernel
theorem dX6_adjust_91 : decode cX6_adjust 91 = .ok (.ireturn, 1) := by decide +kernel
theorem dX6_adjust_92 : decode cX6_adjust 92 = .ok (.aload_n 0, 1) := by decide +kernel
theorem dX6_adjust_93 : decode cX6_adjust 93 = .ok (.getfield 22, 3) := by decide +kernel
theorem dX6_adjust_96 : decode cX6_adjust 96 = .ok (.aload_n 0, 1) := by decide +kernel
theorem dX6_adjust_97 : decode cX6_adjust 97 = .ok (.getfield 10, 3) := by decide +kernel
theorem dX6_adjust_100 : decode cX6_adjust 100 = .ok (.invokevirtual 41, 3) := by decide +kernel
theorem dX6_adjust_103 : decode cX6_adjust 103 = .ok (.aload_n 0, 1) := by decide +kernel
theorem dX6_adjust_104 : decode cX6_adjust 104 = .ok (.getfield 10, 3) := by decide +kernel
theorem dX6_adjust_107 : decode cX6_adjust 107 = .ok (.getfield 74, 3) := by decide +kernel
theorem dX6_adjust_110 : decode cX6_adjust 110 = .ok (.iload_n 1, 1) := by decide +kernel
theorem dX6_adjust_111 : decode cX6_adjust 111 = .ok (.iload_n 2, 1) := by decide +kernel
theorem dX6_adjust_112 : decode cX6_adjust 112 = .ok (.iload_n 3, 1) := by decide +kernel
theorem dX6_adjust_113 : decode cX6_adjust 113 = .ok (.invokevirtual 83, 3) := by decide +kernel
theorem dX6_adjust_116 : decode cX6_adjust 116 = .ok (.iload 4, 2) := by decide +kernel
theorem dX6_adjust_118 : decode cX6_adjust 118 = .ok (.ireturn, 1) := by decide +kernel
set_option maxRecDepth 20000 in
theorem ggX6_type_X5_isFull : GoodIn wsX6_type wsX5_isFull := goodIn_r _ [6, 7, 18, 19] (by decide +kernel) (by decide +kernel)
set_option maxRecDepth 20000 in
theorem gX6_type_X5_isFull : GoodIn wsX6_type (wsV RX6 87 RX5 yX5_isFull wsX5_isFull) := goodIn_app (goodIn_of _ (by decide +kernel)) ggX6_type_X5_isFull
set_option maxRecDepth 20000 in
theorem ggX6_type_X5_append : GoodIn wsX6_type wsX5_append := goodIn_r _ [11, 7, 12, 18, 19] (by decide +kernel) (by decide +kernel)
set_option maxRecDepth 20000 in
theorem gX6_type_X5_append : GoodIn wsX6_type (wsV RX6 88 RX5 yX5_append wsX5_append) := goodIn_app (goodIn_of _ (by decide +kernel)) ggX6_type_X5_append
theorem dX6_type_0 : decode cX6_type 0 = .ok (.aload_n 0, 1) := by decide +kernel
theorem dX6_type_1 : decode cX6_type 1 = .ok (.getfield 29, 3) := by decide +kernel
theorem dX6_type_4 : decode cX6_type 4 = .ok (.invokevirtual 87, 3) := by decide +kernel
theorem dX6_type_7 : decode cX6_type 7 = .ok (.ifCond .eq 7, 3) := by decide +kernel
theorem dX6_type_10 : decode cX6_type 10 = .ok (.sipush (-1003), 3) := by decide +kernel
theorem dX6_type_13 : decode cX6_type 13 = .ok (.ireturn, 1) := by decide +kernel
theorem dX6_type_14 : decode cX6_type 14 = .ok (.aload_n 0, 1) := by decide +kernel
theorem dX6_type_15 : decode cX6_type 15 = .ok (.getfield 29, 3) := by decide +kernel
theorem dX6_type_18 : decode cX6_type 18 = .ok (.iload_n 1, 1) := by decide +kernel
theorem dX6_type_19 : decode cX6_type 19 = .ok (.invokevirtual 88, 3) := by decide +kernel
theorem dX6_type_22 : decode cX6_type 22 = .ok (.aload_n 0, 1) := by decide +kernel
theorem dX6_type_23 : decode cX6_type 23 = .ok (.getfield 29, 3) := by decide +kernel
theorem dX6_type_26 : decode cX6_type 26 = .ok (.getfield 92, 3) := by decide +kernel
theorem dX6_type_29 : decode cX6_type 29 = .ok (.ireturn, 1) := by decide +kernel
theorem dX6_clearText_0 : decode cX6_clearText 0 = .ok (.aload_n 0, 1) := by decide +kernel
theorem dX6_clearText_1 : decode cX6_clearText 1 = .ok (.getfield 29, 3) := by decide +kernel
theorem dX6_clearText_4 : decode cX6_clearText 4 = .ok (.getfield 92, 3) := by decide +kernel
theorem dX6_clearText_7 : decode cX6_clearText 7 = .ok (.istore_n 1, 1) := by decide +kernel
theorem dX6_clearText_8 : decode cX6_clearText 8 = .ok (.aload_n 0, 1) := by decide +kernel
theorem dX6_clearText_9 : decode cX6_clearText 9 = .ok (.getfield 29, 3) := by decide +kernel
theorem dX6_clearText_12 : decode cX6_clearText 12 = .ok (.iconst 0, 1) := by decide +kernel
theorem dX6_clearText_13 : decode cX6_clearText 13 = .ok (.putfield 92, 3) := by decide +kernel
theorem dX6_clearText_16 : decode cX6_clearText 16 = .ok (.iload_n 1, 1) := by decide +kernel
theorem dX6_clearText_17 : decode cX6_clearText 17 = .ok (.ireturn, 1) := by decide +kernel
set_option maxRecDepth 20000 in
theorem ggX6_readNames_X5_fault : GoodIn wsX6_readNames wsX5_fault := goodIn_r _ [8, 9, 10, 11, 12, 7, 13, 14, 15, 16, 17, 18, 19, 20, 21, 22, 23, 24, 114, 115] (by decide +kernel) (by decide +kernel)
set_option maxRecDepth 20000 in
theorem gX6_readNames_X5_fault : GoodIn wsX6_readNames (wsV RX6 95 RX5 yX5_fault wsX5_fault) := goodIn_app (goodIn_of _ (by decide +kernel)) ggX6_readNames_X5_fault
set_option maxRecDepth 20000 in
theorem ggX6_readNames_X5_namesInIt : GoodIn wsX6_readNames wsX5_namesInIt := goodIn_r _ [28, 9, 10, 11, 12, 7, 13, 14, 114, 115] (by decide +kernel) (by decide +kernel)
set_option maxRecDepth 20000 in
theorem gX6_readNames_X5_namesInIt : GoodIn wsX6_readNames (wsV RX6 99 RX5 yX5_namesInIt wsX5_namesInIt) := goodIn_app (goodIn_of _ (by decide +kernel)) ggX6_readNames_X5_namesInIt
set_option maxRecDepth 20000 in
theorem ggX6_readNames_X0_record : GoodIn wsX6_readNames wsX0_record := goodIn_r _ [33, 34, 35, 36, 37, 38, 32, 39, 40, 41, 42, 43, 44, 45, 46, 47, 48, 49, 50, 51, 52, 53, 54, 55, 56, 57, 58, 59, 60, 61, 62, 63, 64, 65, 66, 67, 68, 69, 70, 71, 72, 73, 74, 75, 76, 77, 116, 117, 118, 101, 102, 103, 104, 105, 106, 107, 108, 109, 110, 111, 112, 113, 119, 120, 121, 122] (by decide +kernel) (by decide +kernel)
set_option maxRecDepth 20000 in
theorem gX6_readNames_X0_record : GoodIn wsX6_readNames (wsV RX6 41 RX0 yX0_record wsX0_record) := goodIn_app (goodIn_of _ (by decide +kernel)) ggX6_readNames_X0_record
set_option maxRecDepth 20000 in
theorem ggX6_readNames_X6_addNamesOfText : GoodIn wsX6_readNames wsX6_addNamesOfText := goodIn_r _ [82, 2, 1, 83, 84, 85, 59, 86, 67, 66, 87, 11, 12, 7, 13, 14, 88, 89, 90, 91, 61, 92, 93, 94, 95, 96, 97, 98, 99, 100, 101, 102, 103, 104, 105, 106, 107, 108, 109, 110, 114, 115, 111, 112, 113] (by decide +kernel) (by decide +kernel)
set_option maxRecDepth 20000 in
theorem gX6_readNames_X6_addNamesOfText : GoodIn wsX6_readNames (wsV RX6 111 RX6 yX6_addNamesOfText wsX6_addNamesOfText) := goodIn_app (goodIn_of _ (by decide +kernel)) ggX6_readNames_X6_addNamesOfText
theorem dX6_readNames_0 : decode cX6_readNames 0 = .ok (.aload_n 0, 1) := by decide +kernel
theorem dX6_readNames_1 : decode cX6_readNames 1 = .ok (.getfield 29, 3) := by decide +kernel
theorem dX6_readNames_4 : decode cX6_readNames 4 = .ok (.invokevirtual 95, 3) := by decide +kernel
theorem dX6_readNames_7 : decode cX6_readNames 7 = .ok (.istore_n 1, 1) := by decide +kernel
theorem dX6_readNames_8 : decode cX6_readNames 8 = .ok (.iload_n 1, 1) := by decide +kernel
theorem dX6_readNames_9 : decode cX6_readNames 9 = .ok (.iconst (-1), 1) := by decide +kernel
theorem dX6_readNames_10 : decode cX6_readNames 10 = .ok (.if_icmp .eq 8, 3) := by decide +kernel
theorem dX6_readNames_13 : decode cX6_readNames 13 = .ok (.bipush (-100), 2) := by decide +kernel
theorem dX6_readNames_15 : decode cX6_readNames 15 = .ok (.iload_n 1, 1) := by decide +kernel
theorem dX6_readNames_16 : decode cX6_readNames 16 = .ok (.isub, 1) := by decide +kernel
theorem dX6_readNames_17 : decode cX6_readNames 17 = .ok (.ireturn, 1) := by decide +kernel
theorem dX6_readNames_18 : decode cX6_readNames 18 = .ok (.aload_n 0, 1) := by decide +kernel
theorem dX6_readNames_19 : decode cX6_readNames 19 = .ok (.getfield 29, 3) := by decide +kernel
theorem dX6_readNames_22 : decode cX6_readNames 22 = .ok (.invokevirtual 99, 3) := by decide +kernel
theorem dX6_readNames_25 : decode cX6_readNames 25 = .ok (.istore_n 2, 1) := by decide +kernel
theorem dX6_readNames_26 : decode cX6_readNames 26 = .ok (.aload_n 0, 1) := by decide +kernel
theorem dX6_readNames_27 : decode cX6_readNames 27 = .ok (.getfield 10, 3) := by decide +kernel
theorem dX6_readNames_30 : decode cX6_readNames 30 = .ok (.getfield 102, 3) := by decide +kernel
theorem dX6_readNames_33 : decode cX6_readNames 33 = .ok (.getfield 106, 3) := by decide +kernel
theorem dX6_readNames_36 : decode cX6_readNames 36 = .ok (.iload_n 2, 1) := by decide +kernel
theorem dX6_readNames_37 : decode cX6_readNames 37 = .ok (.iadd, 1) := by decide +kernel
theorem dX6_readNames_38 : decode cX6_readNames 38 = .ok (.bipush 20, 2) := by decide +kernel
theorem dX6_readNames_40 : decode cX6_readNames 40 = .ok (.if_icmp .le 7, 3) := by decide +kernel
theorem dX6_readNames_43 : decode cX6_readNames 43 = .ok (.sipush (-1003), 3) := by decide +kernel
theorem dX6_readNames_46 : decode cX6_readNames 46 = .ok (.ireturn, 1) := by decide +kernel
theorem dX6_readNames_47 : decode cX6_readNames 47 = .ok (.aload_n 0, 1) := by decide +kernel
theorem dX6_readNames_48 : decode cX6_readNames 48 = .ok (.getfield 22, 3) := by decide +kernel
theorem dX6_readNames_51 : decode cX6_readNames 51 = .ok (.aload_n 0, 1) := by decide +kernel
theorem dX6_readNames_52 : decode cX6_readNames 52 = .ok (.getfield 10, 3) := by decide +kernel
theorem dX6_readNames_55 : decode cX6_readNames 55 = .ok (.invokevirtual 41, 3) := by decide +kernel
theorem dX6_readNames_58 : decode cX6_readNames 58 = .ok (.aload_n 0, 1) := by decide +kernel
theorem dX6_readNames_59 : decode cX6_readNames 59 = .ok (.invokevirtual 111, 3) := by decide +kernel
theorem dX6_readNames_62 : decode cX6_readNames 62 = .ok (.iload_n 2, 1) := by decide +kernel
theorem dX6_readNames_63 : decode cX6_readNames 63 = .ok (.ireturn, 1) := by decide +kernel
set_option maxRecDepth 20000 in
theorem ggX6_addNamesOfText_X1_begin : GoodIn wsX6_addNamesOfText wsX1_begin := goodIn_r _ [7, 8, 9, 42, 43, 44] (by decide +kernel) (by decide +kernel)
set_option maxRecDepth 20000 in
theorem gX6_addNamesOfText_X1_begin : GoodIn wsX6_addNamesOfText (wsV RX6 114 RX1 yX1_begin wsX1_begin) := goodIn_app (goodIn_of _ (by decide +kernel)) ggX6_addNamesOfText_X1_begin
set_option maxRecDepth 20000 in
theorem ggX6_addNamesOfText_X5_characterAt : GoodIn wsX6_addNamesOfText wsX5_characterAt := goodIn_r _ [14, 15, 40, 41] (by decide +kernel) (by decide +kernel)
set_option maxRecDepth 20000 in
theorem gX6_addNamesOfText_X5_characterAt : GoodIn wsX6_addNamesOfText (wsV RX6 117 RX5 yX5_characterAt wsX5_characterAt) := goodIn_app (goodIn_of _ (by decide +kernel)) ggX6_addNamesOfText_X5_characterAt
set_option maxRecDepth 20000 in
theorem ggX6_addNamesOfText_X1_append : GoodIn wsX6_addNamesOfText wsX1_append := goodIn_r _ [19, 8, 9, 20, 21, 22, 23, 6, 24, 42, 43, 44] (by decide +kernel) (by decide +kernel)
set_option maxRecDepth 20000 in
theorem gX6_addNamesOfText_X1_append : GoodIn wsX6_addNamesOfText (wsV RX6 121 RX1 yX1_append wsX1_append) := goodIn_app (goodIn_of _ (by decide +kernel)) ggX6_addNamesOfText_X1_append
theorem dX6_addNamesOfText_0 : decode cX6_addNamesOfText 0 = .ok (.aload_n 0, 1) := by decide +kernel
theorem dX6_addNamesOfText_1 : decode cX6_addNamesOfText 1 = .ok (.getfield 10, 3) := by decide +kernel
theorem dX6_addNamesOfText_4 : decode cX6_addNamesOfText 4 = .ok (.getfield 102, 3) := by decide +kernel
theorem dX6_addNamesOfText_7 : decode cX6_addNamesOfText 7 = .ok (.invokevirtual 114, 3) := by decide +kernel
theorem dX6_addNamesOfText_10 : decode cX6_addNamesOfText 10 = .ok (.iconst 0, 1) := by decide +kernel
theorem dX6_addNamesOfText_11 : decode cX6_addNamesOfText 11 = .ok (.istore_n 1, 1) := by decide +kernel
theorem dX6_addNamesOfText_12 : decode cX6_addNamesOfText 12 = .ok (.iload_n 1, 1) := by decide +kernel
theorem dX6_addNamesOfText_13 : decode cX6_addNamesOfText 13 = .ok (.aload_n 0, 1) := by decide +kernel
theorem dX6_addNamesOfText_14 : decode cX6_addNamesOfText 14 = .ok (.getfield 29, 3) := by decide +kernel
theorem dX6_addNamesOfText_17 : decode cX6_addNamesOfText 17 = .ok (.getfield 92, 3) := by decide +kernel
theorem dX6_addNamesOfText_20 : decode cX6_addNamesOfText 20 = .ok (.if_icmp .ge 48, 3) := by decide +kernel
theorem dX6_addNamesOfText_23 : decode cX6_addNamesOfText 23 = .ok (.aload_n 0, 1) := by decide +kernel
theorem dX6_addNamesOfText_24 : decode cX6_addNamesOfText 24 = .ok (.getfield 29, 3) := by decide +kernel
theorem dX6_addNamesOfText_27 : decode cX6_addNamesOfText 27 = .ok (.iload_n 1, 1) := by decide +kernel
theorem dX6_addNamesOfText_28 : decode cX6_addNamesOfText 28 = .ok (.invokevirtual 117, 3) := by decide +kernel
theorem dX6_addNamesOfText_31 : decode cX6_addNamesOfText 31 = .ok (.istore_n 2, 1) := by decide +kernel
theorem dX6_addNamesOfText_32 : decode cX6_addNamesOfText 32 = .ok (.iload_n 2, 1) := by decide +kernel
theorem dX6_addNamesOfText_33 : decode cX6_addNamesOfText 33 = .ok (.bipush 59, 2) := by decide +kernel
theorem dX6_addNamesOfText_35 : decode cX6_addNamesOfText 35 = .ok (.if_icmp .ne 16, 3) := by decide +kernel
theorem dX6_addNamesOfText_38 : decode cX6_addNamesOfText 38 = .ok (.aload_n 0, 1) := by decide +kernel
theorem dX6_addNamesOfText_39 : decode cX6_addNamesOfText 39 = .ok (.getfield 10, 3) := by decide +kernel
theorem dX6_addNamesOfText_42 : decode cX6_addNamesOfText 42 = .ok (.getfield 102, 3) := by decide +kernel
theorem dX6_addNamesOfText_45 : decode cX6_addNamesOfText 45 = .ok (.invokevirtual 114, 3) := by decide +kernel
theorem dX6_addNamesOfText_48 : decode cX6_addNamesOfText 48 = .ok (.goto 14, 3) := by decide +kernel
theorem dX6_addNamesOfText_51 : decode cX6_addNamesOfText 51 = .ok (.aload_n 0, 1) := by decide +kernel
theorem dX6_addNamesOfText_52 : decode cX6_addNamesOfText 52 = .ok (.getfield 10, 3) := by decide +kernel
theorem dX6_addNamesOfText_55 : decode cX6_addNamesOfText 55 = .ok (.getfield 102, 3) := by decide +kernel
theorem dX6_addNamesOfText_58 : decode cX6_addNamesOfText 58 = .ok (.iload_n 2, 1) := by decide +kernel
theorem dX6_addNamesOfText_59 : decode cX6_addNamesOfText 59 = .ok (.invokevirtual 121, 3) := by decide +kernel
theorem dX6_addNamesOfText_62 : decode cX6_addNamesOfText 62 = .ok (.iinc 1 1, 3) := by decide +kernel
theorem dX6_addNamesOfText_65 : decode cX6_addNamesOfText 65 = .ok (.goto (-53), 3) := by decide +kernel
theorem dX6_addNamesOfText_68 : decode cX6_addNamesOfText 68 = .ok (.return_, 1) := by decide +kernel
set_option maxRecDepth 20000 in
theorem ggX6_remove_X1_isTaken : GoodIn wsX6_remove wsX1_isTaken := goodIn_r _ [7, 8, 84, 85, 86] (by decide +kernel) (by decide +kernel)
set_option maxRecDepth 20000 in
theorem gX6_remove_X1_isTaken : GoodIn wsX6_remove (wsV RX6 122 RX1 yX1_isTaken wsX1_isTaken) := goodIn_app (goodIn_of _ (by decide +kernel)) ggX6_remove_X1_isTaken
set_option maxRecDepth 20000 in
theorem ggX6_remove_X4_isEngravedFrom : GoodIn wsX6_remove wsX4_isEngravedFrom := goodIn_r _ [13, 14, 74, 75, 76, 77, 78, 79, 80, 81, 82, 83] (by decide +kernel) (by decide +kernel)
set_option maxRecDepth 20000 in
theorem gX6_remove_X4_isEngravedFrom : GoodIn wsX6_remove (wsV RX6 126 RX4 yX4_isEngravedFrom wsX4_isEngravedFrom) := goodIn_app (goodIn_of _ (by decide +kernel)) ggX6_remove_X4_isEngravedFrom
set_option maxRecDepth 20000 in
theorem ggX6_remove_X0_record : GoodIn wsX6_remove wsX0_record := goodIn_r _ [19, 20, 21, 22, 23, 24, 18, 25, 26, 27, 28, 29, 12, 30, 31, 32, 33, 34, 35, 36, 14, 37, 38, 39, 40, 41, 42, 6, 43, 44, 45, 46, 47, 48, 49, 8, 50, 51, 52, 53, 54, 55, 56, 57, 58, 59, 87, 88, 89, 74, 75, 76, 77, 78, 79, 80, 81, 82, 83, 84, 85, 86, 90, 91, 92, 93] (by decide +kernel) (by decide +kernel)
set_option maxRecDepth 20000 in
theorem gX6_remove_X0_record : GoodIn wsX6_remove (wsV RX6 41 RX0 yX0_record wsX0_record) := goodIn_app (goodIn_of _ (by decide +kernel)) ggX6_remove_X0_record
set_option maxRecDepth 20000 in
theorem ggX6_remove_X1_takeOut : GoodIn wsX6_remove wsX1_takeOut := goodIn_r _ [63, 8, 64, 4, 5, 6, 7, 65, 66, 67, 68, 44, 49, 84, 85, 86] (by decide +kernel) (by decide +kernel)
set_option maxRecDepth 20000 in
theorem gX6_remove_X1_takeOut : GoodIn wsX6_remove (wsV RX6 129 RX1 yX1_takeOut wsX1_takeOut) := goodIn_app (goodIn_of _ (by decide +kernel)) ggX6_remove_X1_takeOut
theorem dX6_remove_0 : decode cX6_remove 0 = .ok (.aload_n 0, 1) := by decide +kernel
theorem dX6_remove_1 : decode cX6_remove 1 = .ok (.getfield 10, 3) := by decide +kernel
theorem dX6_remove_4 : decode cX6_remove 4 = .ok (.getfield 102, 3) := by decide +kernel
theorem dX6_remove_7 : decode cX6_remove 7 = .ok (.iload_n 1, 1) := by decide +kernel
theorem dX6_remove_8 : decode cX6_remove 8 = .ok (.invokevirtual 122, 3) := by decide +kernel
theorem dX6_remove_11 : decode cX6_remove 11 = .ok (.ifCond .ne 7, 3) := by decide +kernel
theorem dX6_remove_14 : decode cX6_remove 14 = .ok (.sipush (-1001), 3) := by decide +kernel
theorem dX6_remove_17 : decode cX6_remove 17 = .ok (.ireturn, 1) := by decide +kernel
theorem dX6_remove_18 : decode cX6_remove 18 = .ok (.aload_n 0, 1) := by decide +kernel
theorem dX6_remove_19 : decode cX6_remove 19 = .ok (.getfield 10, 3) := by decide +kernel
theorem dX6_remove_22 : decode cX6_remove 22 = .ok (.iload_n 1, 1) := by decide +kernel
theorem dX6_remove_23 : decode cX6_remove 23 = .ok (.invokevirtual 126, 3) := by decide +kernel
theorem dX6_remove_26 : decode cX6_remove 26 = .ok (.ifCond .eq 7, 3) := by decide +kernel
theorem dX6_remove_29 : decode cX6_remove 29 = .ok (.sipush (-1004), 3) := by decide +kernel
theorem dX6_remove_32 : decode cX6_remove 32 = .ok (.ireturn, 1) := by decide +kernel
theorem dX6_remove_33 : decode cX6_remove 33 = .ok (.aload_n 0, 1) := by decide +kernel
theorem dX6_remove_34 : decode cX6_remove 34 = .ok (.getfield 22, 3) := by decide +kernel
theorem dX6_remove_37 : decode cX6_remove 37 = .ok (.aload_n 0, 1) := by decide +kernel
theorem dX6_remove_38 : decode cX6_remove 38 = .ok (.getfield 10, 3) := by decide +kernel
theorem dX6_remove_41 : decode cX6_remove 41 = .ok (.invokevirtual 41, 3) := by decide +kernel
theorem dX6_remove_44 : decode cX6_remove 44 = .ok (.aload_n 0, 1) := by decide +kernel
theorem dX6_remove_45 : decode cX6_remove 45 = .ok (.getfield 10, 3) := by decide +kernel
theorem dX6_remove_48 : decode cX6_remove 48 = .ok (.getfield 102, 3) := by decide +kernel
theorem dX6_remove_51 : decode cX6_remove 51 = .ok (.iload_n 1, 1) := by decide +kernel
theorem dX6_remove_52 : decode cX6_remove 52 = .ok (.invokevirtual 129, 3) := by decide +kernel
theorem dX6_remove_55 : decode cX6_remove 55 = .ok (.aload_n 0, 1) := by decide +kernel
theorem dX6_remove_56 : decode cX6_remove 56 = .ok (.getfield 10, 3) := by decide +kernel
theorem dX6_remove_59 : decode cX6_remove 59 = .ok (.getfield 102, 3) := by decide +kernel
theorem dX6_remove_62 : decode cX6_remove 62 = .ok (.getfield 106, 3) := by decide +kernel
theorem dX6_remove_65 : decode cX6_remove 65 = .ok (.ireturn, 1) := by decide +kernel
set_option maxRecDepth 20000 in
theorem ggX6_swap_X1_isTaken : GoodIn wsX6_swap wsX1_isTaken := goodIn_r _ [7, 8, 150, 151, 152] (by decide +kernel) (by decide +kernel)
set_option maxRecDepth 20000 in
theorem gX6_swap_X1_isTaken : GoodIn wsX6_swap (wsV RX6 122 RX1 yX1_isTaken wsX1_isTaken) := goodIn_app (goodIn_of _ (by decide +kernel)) ggX6_swap_X1_isTaken
set_option maxRecDepth 20000 in
theorem ggX6_swap_X4_isEngraved : GoodIn wsX6_swap wsX4_isEngraved := goodIn_r _ [13, 14, 140, 141, 142, 143, 144, 145, 146, 147, 148, 149] (by decide +kernel) (by decide +kernel)
set_option maxRecDepth 20000 in
theorem gX6_swap_X4_isEngraved : GoodIn wsX6_swap (wsV RX6 133 RX4 yX4_isEngraved wsX4_isEngraved) := goodIn_app (goodIn_of _ (by decide +kernel)) ggX6_swap_X4_isEngraved
set_option maxRecDepth 20000 in
theorem ggX6_swap_X0_record : GoodIn wsX6_swap wsX0_record := goodIn_r _ [19, 20, 21, 22, 23, 24, 18, 25, 26, 27, 28, 29, 12, 30, 31, 32, 33, 34, 35, 36, 14, 37, 38, 39, 40, 41, 42, 6, 43, 44, 45, 46, 47, 48, 49, 8, 50, 51, 52, 53, 54, 55, 56, 57, 58, 59, 153, 154, 155, 140, 141, 142, 143, 144, 145, 146, 147, 148, 149, 150, 151, 152, 156, 157, 158, 159] (by decide +kernel) (by decide +kernel)
set_option maxRecDepth 20000 in
theorem gX6_swap_X0_record : GoodIn wsX6_swap (wsV RX6 41 RX0 yX0_record wsX0_record) := goodIn_app (goodIn_of _ (by decide +kernel)) ggX6_swap_X0_record
set_option maxRecDepth 20000 in
theorem ggX6_swap_X1_exchange : GoodIn wsX6_swap wsX1_exchange := goodIn_r _ [63, 44, 49, 64, 4, 5, 6, 7, 8, 150, 151, 152] (by decide +kernel) (by decide +kernel)
set_option maxRecDepth 20000 in
theorem gX6_swap_X1_exchange : GoodIn wsX6_swap (wsV RX6 136 RX1 yX1_exchange wsX1_exchange) := goodIn_app (goodIn_of _ (by decide +kernel)) ggX6_swap_X1_exchange
set_option maxRecDepth 20000 in
theorem ggX6_swap_X4_sizeNow : GoodIn wsX6_swap wsX4_sizeNow := goodIn_r _ [68, 37, 33, 34, 31, 69, 70, 71, 12, 72, 14, 73, 74, 75, 76, 77, 78, 79, 80, 81, 82, 83, 84, 85, 86, 87, 6, 88, 49, 89, 90, 91, 92, 93, 94, 95, 96, 44, 97, 98, 99, 100, 101, 102, 103, 104, 32, 105, 106, 107, 53, 108, 59, 55, 57, 109, 110, 111, 112, 58, 113, 114, 115, 116, 117, 118, 119, 35, 120, 121, 122, 123, 36, 124, 125, 126, 127, 128, 129, 130, 131, 132, 133, 134, 140, 141, 142, 143, 144, 145, 146, 147, 148, 149, 150, 151, 152, 156, 157, 158, 159] (by decide +kernel) (by decide +kernel)
set_option maxRecDepth 20000 in
theorem gX6_swap_X4_sizeNow : GoodIn wsX6_swap (wsV RX6 140 RX4 yX4_sizeNow wsX4_sizeNow) := goodIn_app (goodIn_of _ (by decide +kernel)) ggX6_swap_X4_sizeNow
theorem dX6_swap_0 : decode cX6_swap 0 = .ok (.aload_n 0, 1) := by decide +kernel
theorem dX6_swap_1 : decode cX6_swap 1 = .ok (.getfield 10, 3) := by decide +kernel
theorem dX6_swap_4 : decode cX6_swap 4 = .ok (.getfield 102, 3) := by decide +kernel
theorem dX6_swap_7 : decode cX6_swap 7 = .ok (.iload_n 1, 1) := by decide +kernel
theorem dX6_swap_8 : decode cX6_swap 8 = .ok (.invokevirtual 122, 3) := by decide +kernel
theorem dX6_swap_11 : decode cX6_swap 11 = .ok (.ifCond .eq 17, 3) := by decide +kernel
theorem dX6_swap_14 : decode cX6_swap 14 = .ok (.aload_n 0, 1) := by decide +kernel
theorem dX6_swap_15 : decode cX6_swap 15 = .ok (.getfield 10, 3) := by decide +kernel
theorem dX6_swap_18 : decode cX6_swap 18 = .ok (.getfield 102, 3) := by decide +kernel
theorem dX6_swap_21 : decode cX6_swap 21 = .ok (.iload_n 2, 1) := by decide +kernel
theorem dX6_swap_22 : decode cX6_swap 22 = .ok (.invokevirtual 122, 3) := by decide +kernel
theorem dX6_swap_25 : decode cX6_swap 25 = .ok (.ifCond .ne 7, 3) := by decide +kernel
theorem dX6_swap_28 : decode cX6_swap 28 = .ok (.sipush (-1001), 3) := by decide +kernel
theorem dX6_swap_31 : decode cX6_swap 31 = .ok (.ireturn, 1) := by decide +kernel
theorem dX6_swap_32 : decode cX6_swap 32 = .ok (.aload_n 0, 1) := by decide +kernel
theorem dX6_swap_33 : decode cX6_swap 33 = .ok (.getfield 10, 3) := by decide +kernel
theorem dX6_swap_36 : decode cX6_swap 36 = .ok (.iload_n 1, 1) := by decide +kernel
theorem dX6_swap_37 : decode cX6_swap 37 = .ok (.invokevirtual 133, 3) := by decide +kernel
theorem dX6_swap_40 : decode cX6_swap 40 = .ok (.ifCond .ne 14, 3) := by decide +kernel
theorem dX6_swap_43 : decode cX6_swap 43 = .ok (.aload_n 0, 1) := by decide +kernel
theorem dX6_swap_44 : decode cX6_swap 44 = .ok (.getfield 10, 3) := by decide +kernel
theorem dX6_swap_47 : decode cX6_swap 47 = .ok (.iload_n 2, 1) := by decide +kernel
theorem dX6_swap_48 : decode cX6_swap 48 = .ok (.invokevirtual 133, 3) := by decide +kernel
theorem dX6_swap_51 : decode cX6_swap 51 = .ok (.ifCond .eq 7, 3) := by decide +kernel
theorem dX6_swap_54 : decode cX6_swap 54 = .ok (.sipush (-1004), 3) := by decide +kernel
theorem dX6_swap_57 : decode cX6_swap 57 = .ok (.ireturn, 1) := by decide +kernel
theorem dX6_swap_58 : decode cX6_swap 58 = .ok (.iload_n 1, 1) := by decide +kernel
theorem dX6_swap_59 : decode cX6_swap 59 = .ok (.iload_n 2, 1) := by decide +kernel
theorem dX6_swap_60 : decode cX6_swap 60 = .ok (.if_icmp .ne 7, 3) := by decide +kernel
theorem dX6_swap_63 : decode cX6_swap 63 = .ok (.sipush (-1005), 3) := by decide +kernel
theorem dX6_swap_66 : decode cX6_swap 66 = .ok (.ireturn, 1) := by decide +kernel
theorem dX6_swap_67 : decode cX6_swap 67 = .ok (.aload_n 0, 1) := by decide +kernel
theorem dX6_swap_68 : decode cX6_swap 68 = .ok (.getfield 22, 3) := by decide +kernel
theorem dX6_swap_71 : decode cX6_swap 71 = .ok (.aload_n 0, 1) := by decide +kernel
theorem dX6_swap_72 : decode cX6_swap 72 = .ok (.getfield 10, 3) := by decide +kernel
theorem dX6_swap_75 : decode cX6_swap 75 = .ok (.invokevirtual 41, 3) := by decide +kernel
theorem dX6_swap_78 : decode cX6_swap 78 = .ok (.aload_n 0, 1) := by decide +kernel
theorem dX6_swap_79 : decode cX6_swap 79 = .ok (.getfield 10, 3) := by decide +kernel
theorem dX6_swap_82 : decode cX6_swap 82 = .ok (.getfield 102, 3) := by decide +kernel
theorem dX6_swap_85 : decode cX6_swap 85 = .ok (.iload_n 1, 1) := by decide +kernel
theorem dX6_swap_86 : decode cX6_swap 86 = .ok (.iload_n 2, 1) := by decide +kernel
theorem dX6_swap_87 : decode cX6_swap 87 = .ok (.invokevirtual 136, 3) := by decide +kernel
theorem dX6_swap_90 : decode cX6_swap 90 = .ok (.aload_n 0, 1) := by decide +kernel
theorem dX6_swap_91 : decode cX6_swap 91 = .ok (.getfield 10, 3) := by decide +kernel
theorem dX6_swap_94 : decode cX6_swap 94 = .ok (.invokevirtual 140, 3) := by decide +kernel
theorem dX6_swap_97 : decode cX6_swap 97 = .ok (.ireturn, 1) := by decide +kernel
set_option maxRecDepth 20000 in
theorem ggX6_engrave_X1_isTaken : GoodIn wsX6_engrave wsX1_isTaken := goodIn_r _ [7, 8, 183, 184, 185] (by decide +kernel) (by decide +kernel)
set_option maxRecDepth 20000 in
theorem gX6_engrave_X1_isTaken : GoodIn wsX6_engrave (wsV RX6 122 RX1 yX1_isTaken wsX1_isTaken) := goodIn_app (goodIn_of _ (by decide +kernel)) ggX6_engrave_X1_isTaken
set_option maxRecDepth 20000 in
theorem ggX6_engrave_X4_sizeNow : GoodIn wsX6_engrave wsX4_sizeNow := goodIn_r _ [13, 14, 15, 16, 17, 18, 19, 20, 12, 21, 22, 23, 24, 25, 26, 27, 28, 29, 30, 31, 32, 33, 34, 35, 36, 37, 6, 38, 39, 40, 41, 42, 43, 44, 45, 46, 47, 48, 49, 50, 51, 52, 53, 54, 55, 56, 57, 58, 59, 60, 61, 62, 63, 64, 65, 66, 67, 68, 69, 70, 71, 72, 73, 74, 75, 76, 77, 78, 79, 80, 81, 82, 83, 84, 85, 86, 87, 88, 89, 90, 91, 92, 93, 94, 173, 174, 175, 176, 177, 178, 179, 180, 181, 182, 183, 184, 185, 186, 187, 188, 189] (by decide +kernel) (by decide +kernel)
set_option maxRecDepth 20000 in
theorem gX6_engrave_X4_sizeNow : GoodIn wsX6_engrave (wsV RX6 140 RX4 yX4_sizeNow wsX4_sizeNow) := goodIn_app (goodIn_of _ (by decide +kernel)) ggX6_engrave_X4_sizeNow
set_option maxRecDepth 20000 in
theorem ggX6_engrave_X4_fits : GoodIn wsX6_engrave wsX4_fits := goodIn_r _ [98, 15, 16, 78, 31, 32, 33, 12, 34, 17, 35, 36, 37, 6, 38, 39, 40, 41, 42, 43, 44, 45, 46, 47, 48, 49, 50, 51, 52, 53, 54, 55, 56, 57, 27, 28, 29, 30, 58, 59, 60, 61, 62, 63, 64, 65, 66, 67, 68, 69, 70, 71, 72, 73, 91, 92, 93, 94, 83, 84, 85, 86, 87, 88, 89, 90, 99, 100, 101, 102, 173, 174, 175, 176, 177, 178, 179, 180, 181, 182, 183, 184, 185, 186, 187, 188, 189] (by decide +kernel) (by decide +kernel)
set_option maxRecDepth 20000 in
theorem gX6_engrave_X4_fits : GoodIn wsX6_engrave (wsV RX6 143 RX4 yX4_fits wsX4_fits) := goodIn_app (goodIn_of _ (by decide +kernel)) ggX6_engrave_X4_fits
set_option maxRecDepth 20000 in
theorem ggX6_engrave_X4_isEngraved : GoodIn wsX6_engrave wsX4_isEngraved := goodIn_r _ [106, 22, 173, 174, 175, 176, 177, 178, 179, 180, 181, 182] (by decide +kernel) (by decide +kernel)
set_option maxRecDepth 20000 in
theorem gX6_engrave_X4_isEngraved : GoodIn wsX6_engrave (wsV RX6 133 RX4 yX4_isEngraved wsX4_isEngraved) := goodIn_app (goodIn_of _ (by decide +kernel)) ggX6_engrave_X4_isEngraved
set_option maxRecDepth 20000 in
theorem ggX6_engrave_X0_record : GoodIn wsX6_engrave wsX0_record := goodIn_r _ [111, 112, 113, 114, 115, 116, 110, 117, 118, 119, 120, 121, 12, 122, 17, 57, 15, 16, 78, 83, 22, 14, 123, 124, 125, 126, 127, 6, 128, 48, 129, 130, 131, 132, 39, 8, 133, 134, 135, 61, 136, 64, 137, 65, 70, 63, 190, 191, 192, 173, 174, 175, 176, 177, 178, 179, 180, 181, 182, 183, 184, 185, 186, 187, 188, 189] (by decide +kernel) (by decide +kernel)
set_option maxRecDepth 20000 in
theorem gX6_engrave_X0_record : GoodIn wsX6_engrave (wsV RX6 41 RX0 yX0_record wsX0_record) := goodIn_app (goodIn_of _ (by decide +kernel)) ggX6_engrave_X0_record
set_option maxRecDepth 20000 in
theorem ggX6_engrave_X4_markEngraved : GoodIn wsX6_engrave wsX4_markEngraved := goodIn_r _ [141, 22, 14, 173, 174, 175, 176, 177, 178, 179, 180, 181, 182] (by decide +kernel) (by decide +kernel)
set_option maxRecDepth 20000 in
theorem gX6_engrave_X4_markEngraved : GoodIn wsX6_engrave (wsV RX6 146 RX4 yX4_markEngraved wsX4_markEngraved) := goodIn_app (goodIn_of _ (by decide +kernel)) ggX6_engrave_X4_markEngraved
set_option maxRecDepth 20000 in
theorem ggX6_engrave_X4_beginOf : GoodIn wsX6_engrave wsX4_beginOf := goodIn_r _ [145, 15, 146, 147, 29, 148, 27, 28, 30, 91, 92, 93, 12, 94, 78, 83, 84, 85, 86, 87, 88, 89, 90, 149, 150, 151, 152, 153, 154, 155, 156, 157, 158, 159, 160, 17, 35, 36, 37, 6, 38, 39, 44, 45, 46, 47, 48, 161, 162, 51, 163, 164, 165, 166, 167, 49, 50, 52, 53, 54, 55, 56, 57, 58, 59, 60, 61, 62, 63, 64, 65, 66, 67, 68, 69, 70, 71, 72, 73, 31, 32, 33, 34, 40, 41, 42, 43, 173, 174, 175, 176, 177, 178, 179, 180, 181, 182, 183, 184, 185, 186, 187, 188, 189] (by decide +kernel) (by decide +kernel)
set_option maxRecDepth 20000 in
theorem gX6_engrave_X4_beginOf : GoodIn wsX6_engrave (wsV RX6 149 RX4 yX4_beginOf wsX4_beginOf) := goodIn_app (goodIn_of _ (by decide +kernel)) ggX6_engrave_X4_beginOf
theorem dX6_engrave_0 : decode cX6_engrave 0 = .ok (.aload_n 0, 1) := by decide +kernel
theorem dX6_engrave_1 : decode cX6_engrave 1 = .ok (.getfield 10, 3) := by decide +kernel
theorem dX6_engrave_4 : decode cX6_engrave 4 = .ok (.getfield 102, 3) := by decide +kernel
theorem dX6_engrave_7 : decode cX6_engrave 7 = .ok (.iload_n 1, 1) := by decide +kernel
theorem dX6_engrave_8 : decode cX6_engrave 8 = .ok (.invokevirtual 122, 3) := by decide +kernel
theorem dX6_engrave_11 : decode cX6_engrave 11 = .ok (.ifCond .ne 7, 3) := by decide +kernel
theorem dX6_engrave_14 : decode cX6_engrave 14 = .ok (.sipush (-1001), 3) := by decide +kernel
theorem dX6_engrave_17 : decode cX6_engrave 17 = .ok (.ireturn, 1) := by decide +kernel
theorem dX6_engrave_18 : decode cX6_engrave 18 = .ok (.aload_n 0, 1) := by decide +kernel
theorem dX6_engrave_19 : decode cX6_engrave 19 = .ok (.getfield 10, 3) := by decide +kernel
theorem dX6_engrave_22 : decode cX6_engrave 22 = .ok (.invokevirtual 140, 3) := by decide +kernel
theorem dX6_engrave_25 : decode cX6_engrave 25 = .ok (.istore_n 2, 1) := by decide +kernel
theorem dX6_engrave_26 : decode cX6_engrave 26 = .ok (.aload_n 0, 1) := by decide +kernel
theorem dX6_engrave_27 : decode cX6_engrave 27 = .ok (.getfield 10, 3) := by decide +kernel
theorem dX6_engrave_30 : decode cX6_engrave 30 = .ok (.iload_n 1, 1) := by decide +kernel
theorem dX6_engrave_31 : decode cX6_engrave 31 = .ok (.iload_n 2, 1) := by decide +kernel
theorem dX6_engrave_32 : decode cX6_engrave 32 = .ok (.invokevirtual 143, 3) := by decide +kernel
theorem dX6_engrave_35 : decode cX6_engrave 35 = .ok (.ifCond .ne 7, 3) := by decide +kernel
theorem dX6_engrave_38 : decode cX6_engrave 38 = .ok (.sipush (-1004), 3) := by decide +kernel
theorem dX6_engrave_41 : decode cX6_engrave 41 = .ok (.ireturn, 1) := by decide +kernel
theorem dX6_engrave_42 : decode cX6_engrave 42 = .ok (.aload_n 0, 1) := by decide +kernel
theorem dX6_engrave_43 : decode cX6_engrave 43 = .ok (.getfield 10, 3) := by decide +kernel
theorem dX6_engrave_46 : decode cX6_engrave 46 = .ok (.iload_n 1, 1) := by decide +kernel
theorem dX6_engrave_47 : decode cX6_engrave 47 = .ok (.invokevirtual 133, 3) := by decide +kernel
theorem dX6_engrave_50 : decode cX6_engrave 50 = .ok (.ifCond .eq 7, 3) := by decide +kernel
theorem dX6_engrave_53 : decode cX6_engrave 53 = .ok (.sipush (-1005), 3) := by decide +kernel
theorem dX6_engrave_56 : decode cX6_engrave 56 = .ok (.ireturn, 1) := by decide +kernel
theorem dX6_engrave_57 : decode cX6_engrave 57 = .ok (.aload_n 0, 1) := by decide +kernel
theorem dX6_engrave_58 : decode cX6_engrave 58 = .ok (.getfield 22, 3) := by decide +kernel
theorem dX6_engrave_61 : decode cX6_engrave 61 = .ok (.aload_n 0, 1) := by decide +kernel
theorem dX6_engrave_62 : decode cX6_engrave 62 = .ok (.getfield 10, 3) := by decide +kernel
theorem dX6_engrave_65 : decode cX6_engrave 65 = .ok (.invokevirtual 41, 3) := by decide +kernel
theorem dX6_engrave_68 : decode cX6_engrave 68 = .ok (.aload_n 0, 1) := by decide +kernel
theorem dX6_engrave_69 : decode cX6_engrave 69 = .ok (.getfield 10, 3) := by decide +kernel
theorem dX6_engrave_72 : decode cX6_engrave 72 = .ok (.iconst 1, 1) := by decide +kernel
theorem dX6_engrave_73 : decode cX6_engrave 73 = .ok (.iload_n 1, 1) := by decide +kernel
theorem dX6_engrave_74 : decode cX6_engrave 74 = .ok (.ishl, 1) := by decide +kernel
theorem dX6_engrave_75 : decode cX6_engrave 75 = .ok (.iload_n 2, 1) := by decide +kernel
theorem dX6_engrave_76 : decode cX6_engrave 76 = .ok (.invokevirtual 146, 3) := by decide +kernel
theorem dX6_engrave_79 : decode cX6_engrave 79 = .ok (.aload_n 0, 1) := by decide +kernel
theorem dX6_engrave_80 : decode cX6_engrave 80 = .ok (.getfield 10, 3) := by decide +kernel
theorem dX6_engrave_83 : decode cX6_engrave 83 = .ok (.iload_n 1, 1) := by decide +kernel
theorem dX6_engrave_84 : decode cX6_engrave 84 = .ok (.iload_n 2, 1) := by decide +kernel
theorem dX6_engrave_85 : decode cX6_engrave 85 = .ok (.invokevirtual 149, 3) := by decide +kernel
theorem dX6_engrave_88 : decode cX6_engrave 88 = .ok (.ireturn, 1) := by decide +kernel
set_option maxRecDepth 20000 in
theorem ggX6_engraveAll_X4_sizeNow : GoodIn wsX6_engraveAll wsX4_sizeNow := goodIn_r _ [7, 8, 9, 10, 11, 12, 13, 14, 6, 15, 16, 17, 18, 19, 20, 21, 22, 23, 24, 25, 26, 27, 28, 29, 30, 31, 32, 33, 34, 35, 36, 37, 38, 39, 40, 41, 42, 43, 44, 45, 46, 47, 48, 49, 50, 51, 52, 53, 54, 55, 56, 57, 58, 59, 60, 61, 62, 63, 64, 65, 66, 67, 68, 69, 70, 71, 72, 73, 74, 75, 76, 77, 78, 79, 80, 81, 82, 83, 84, 85, 86, 87, 88, 89, 154, 155, 156, 157, 158, 159, 160, 161, 162, 163, 164, 165, 166, 167, 168, 169, 170] (by decide +kernel) (by decide +kernel)
set_option maxRecDepth 20000 in
theorem gX6_engraveAll_X4_sizeNow : GoodIn wsX6_engraveAll (wsV RX6 140 RX4 yX4_sizeNow wsX4_sizeNow) := goodIn_app (goodIn_of _ (by decide +kernel)) ggX6_engraveAll_X4_sizeNow
set_option maxRecDepth 20000 in
theorem ggX6_engraveAll_X4_engravableSeats : GoodIn wsX6_engraveAll wsX4_engravableSeats := goodIn_r _ [93, 11, 94, 95, 96, 6, 97, 16, 98, 99, 100, 101, 9, 10, 73, 25, 26, 27, 28, 29, 30, 31, 32, 33, 34, 35, 36, 37, 38, 39, 40, 41, 42, 43, 44, 45, 46, 47, 48, 49, 50, 51, 52, 21, 22, 23, 24, 53, 54, 55, 56, 57, 58, 59, 60, 61, 62, 63, 64, 65, 66, 67, 68, 86, 87, 88, 89, 78, 79, 80, 81, 82, 83, 84, 85, 102, 103, 104, 105, 154, 155, 156, 157, 158, 159, 160, 161, 162, 163, 164, 165, 166, 167, 168, 169, 170] (by decide +kernel) (by decide +kernel)
set_option maxRecDepth 20000 in
theorem gX6_engraveAll_X4_engravableSeats : GoodIn wsX6_engraveAll (wsV RX6 152 RX4 yX4_engravableSeats wsX4_engravableSeats) := goodIn_app (goodIn_of _ (by decide +kernel)) ggX6_engraveAll_X4_engravableSeats
set_option maxRecDepth 20000 in
theorem ggX6_engraveAll_X0_record : GoodIn wsX6_engraveAll wsX0_record := goodIn_r _ [110, 111, 112, 113, 114, 115, 109, 116, 117, 118, 119, 120, 6, 121, 11, 52, 9, 10, 73, 78, 16, 8, 122, 123, 124, 125, 126, 32, 127, 43, 128, 129, 130, 131, 34, 132, 133, 134, 135, 56, 136, 59, 137, 60, 65, 58, 171, 172, 173, 154, 155, 156, 157, 158, 159, 160, 161, 162, 163, 164, 165, 166, 167, 168, 169, 170] (by decide +kernel) (by decide +kernel)
set_option maxRecDepth 20000 in
theorem gX6_engraveAll_X0_record : GoodIn wsX6_engraveAll (wsV RX6 41 RX0 yX0_record wsX0_record) := goodIn_app (goodIn_of _ (by decide +kernel)) ggX6_engraveAll_X0_record
set_option maxRecDepth 20000 in
theorem ggX6_engraveAll_X4_markEngraved : GoodIn wsX6_engraveAll wsX4_markEngraved := goodIn_r _ [141, 16, 8, 154, 155, 156, 157, 158, 159, 160, 161, 162, 163] (by decide +kernel) (by decide +kernel)
set_option maxRecDepth 20000 in
theorem gX6_engraveAll_X4_markEngraved : GoodIn wsX6_engraveAll (wsV RX6 146 RX4 yX4_markEngraved wsX4_markEngraved) := goodIn_app (goodIn_of _ (by decide +kernel)) ggX6_engraveAll_X4_markEngraved
set_option maxRecDepth 20000 in
theorem ggX6_engraveAll_J6_bitCount_0f7a4 : GoodIn wsX6_engraveAll wsJ6_bitCount_0f7a4 := goodIn_r _ [145, 146, 147, 148] (by decide +kernel) (by decide +kernel)
set_option maxRecDepth 20000 in
theorem gX6_engraveAll_J6_bitCount_0f7a4 : GoodIn wsX6_engraveAll (va_wsS RX6 156 yJ6_bitCount_0f7a4 wsJ6_bitCount_0f7a4) := goodIn_app (goodIn_of _ (by decide +kernel)) ggX6_engraveAll_J6_bitCount_0f7a4
theorem dX6_engraveAll_0 : decode cX6_engraveAll 0 = .ok (.aload_n 0, 1) := by decide +kernel
theorem dX6_engraveAll_1 : decode cX6_engraveAll 1 = .ok (.getfield 10, 3) := by decide +kernel
theorem dX6_engraveAll_4 : decode cX6_engraveAll 4 = .ok (.invokevirtual 140, 3) := by decide +kernel
theorem dX6_engraveAll_7 : decode cX6_engraveAll 7 = .ok (.istore_n 1, 1) := by decide +kernel
theorem dX6_engraveAll_8 : decode cX6_engraveAll 8 = .ok (.aload_n 0, 1) := by decide +kernel
theorem dX6_engraveAll_9 : decode cX6_engraveAll 9 = .ok (.getfield 10, 3) := by decide +kernel
theorem dX6_engraveAll_12 : decode cX6_engraveAll 12 = .ok (.iload_n 1, 1) := by decide +kernel
theorem dX6_engraveAll_13 : decode cX6_engraveAll 13 = .ok (.invokevirtual 152, 3) := by decide +kernel
theorem dX6_engraveAll_16 : decode cX6_engraveAll 16 = .ok (.istore_n 2, 1) := by decide +kernel
theorem dX6_engraveAll_17 : decode cX6_engraveAll 17 = .ok (.iload_n 2, 1) := by decide +kernel
theorem dX6_engraveAll_18 : decode cX6_engraveAll 18 = .ok (.ifCond .ne 7, 3) := by decide +kernel
theorem dX6_engraveAll_21 : decode cX6_engraveAll 21 = .ok (.sipush (-1005), 3) := by decide +kernel
theorem dX6_engraveAll_24 : decode cX6_engraveAll 24 = .ok (.ireturn, 1) := by decide +kernel
theorem dX6_engraveAll_25 : decode cX6_engraveAll 25 = .ok (.aload_n 0, 1) := by decide +kernel
theorem dX6_engraveAll_26 : decode cX6_engraveAll 26 = .ok (.getfield 22, 3) := by decide +kernel
theorem dX6_engraveAll_29 : decode cX6_engraveAll 29 = .ok (.aload_n 0, 1) := by decide +kernel
theorem dX6_engraveAll_30 : decode cX6_engraveAll 30 = .ok (.getfield 10, 3) := by decide +kernel
theorem dX6_engraveAll_33 : decode cX6_engraveAll 33 = .ok (.invokevirtual 41, 3) := by decide +kernel
theorem dX6_engraveAll_36 : decode cX6_engraveAll 36 = .ok (.aload_n 0, 1) := by decide +kernel
theorem dX6_engraveAll_37 : decode cX6_engraveAll 37 = .ok (.getfield 10, 3) := by decide +kernel
theorem dX6_engraveAll_40 : decode cX6_engraveAll 40 = .ok (.iload_n 2, 1) := by decide +kernel
theorem dX6_engraveAll_41 : decode cX6_engraveAll 41 = .ok (.iload_n 1, 1) := by decide +kernel
theorem dX6_engraveAll_42 : decode cX6_engraveAll 42 = .ok (.invokevirtual 146, 3) := by decide +kernel
theorem dX6_engraveAll_45 : decode cX6_engraveAll 45 = .ok (.iload_n 2, 1) := by decide +kernel
theorem dX6_engraveAll_46 : decode cX6_engraveAll 46 = .ok (.invokestatic 156, 3) := by decide +kernel
theorem dX6_engraveAll_49 : decode cX6_engraveAll 49 = .ok (.ireturn, 1) := by decide +kernel
set_option maxRecDepth 20000 in
theorem ggX6_undo_X0_takeLatest : GoodIn wsX6_undo wsX0_takeLatest := goodIn_r _ [7, 8, 9, 10, 11, 6, 12, 13, 14, 15, 16, 17, 18, 19, 20, 21, 22, 23, 24, 25, 26, 27, 28, 29, 30, 31, 32, 33, 34, 35, 36, 37, 38, 39, 40, 41, 42, 43, 44, 45, 46, 47, 48, 49, 50, 51, 57, 58, 59, 60, 61, 62, 63, 64, 65, 66, 67, 68, 69, 70, 71, 72, 73, 74, 75, 76] (by decide +kernel) (by decide +kernel)
set_option maxRecDepth 20000 in
theorem gX6_undo_X0_takeLatest : GoodIn wsX6_undo (wsV RX6 162 RX0 yX0_takeLatest wsX0_takeLatest) := goodIn_app (goodIn_of _ (by decide +kernel)) ggX6_undo_X0_takeLatest
theorem dX6_undo_0 : decode cX6_undo 0 = .ok (.aload_n 0, 1) := by decide +kernel
theorem dX6_undo_1 : decode cX6_undo 1 = .ok (.getfield 22, 3) := by decide +kernel
theorem dX6_undo_4 : decode cX6_undo 4 = .ok (.getfield 161, 3) := by decide +kernel
theorem dX6_undo_7 : decode cX6_undo 7 = .ok (.ifCond .ne 7, 3) := by decide +kernel
theorem dX6_undo_10 : decode cX6_undo 10 = .ok (.sipush (-1005), 3) := by decide +kernel
theorem dX6_undo_13 : decode cX6_undo 13 = .ok (.ireturn, 1) := by decide +kernel
theorem dX6_undo_14 : decode cX6_undo 14 = .ok (.aload_n 0, 1) := by decide +kernel
theorem dX6_undo_15 : decode cX6_undo 15 = .ok (.getfield 22, 3) := by decide +kernel
theorem dX6_undo_18 : decode cX6_undo 18 = .ok (.aload_n 0, 1) := by decide +kernel
theorem dX6_undo_19 : decode cX6_undo 19 = .ok (.getfield 10, 3) := by decide +kernel
theorem dX6_undo_22 : decode cX6_undo 22 = .ok (.invokevirtual 162, 3) := by decide +kernel
theorem dX6_undo_25 : decode cX6_undo 25 = .ok (.aload_n 0, 1) := by decide +kernel
theorem dX6_undo_26 : decode cX6_undo 26 = .ok (.getfield 22, 3) := by decide +kernel
theorem dX6_undo_29 : decode cX6_undo 29 = .ok (.getfield 161, 3) := by decide +kernel
theorem dX6_undo_32 : decode cX6_undo 32 = .ok (.ireturn, 1) := by decide +kernel
set_option maxRecDepth 20000 in
theorem ggX6_keep_X4_copyFrom : GoodIn wsX6_keep wsX4_copyFrom := goodIn_r _ [8, 9, 10, 11, 12, 13, 14, 15, 16, 17, 18, 19, 20, 21, 22, 23, 24, 25, 26, 27, 28, 29, 30, 31, 32, 33, 34, 35, 36, 37, 38, 39, 40, 46, 47, 48, 49, 50, 51, 52, 53, 54, 55, 56, 57, 58, 59, 60, 61, 62] (by decide +kernel) (by decide +kernel)
set_option maxRecDepth 20000 in
theorem gX6_keep_X4_copyFrom : GoodIn wsX6_keep (wsV RX6 165 RX4 yX4_copyFrom wsX4_copyFrom) := goodIn_app (goodIn_of _ (by decide +kernel)) ggX6_keep_X4_copyFrom
theorem dX6_keep_0 : decode cX6_keep 0 = .ok (.aload_n 0, 1) := by decide +kernel
theorem dX6_keep_1 : decode cX6_keep 1 = .ok (.getfield 16, 3) := by decide +kernel
theorem dX6_keep_4 : decode cX6_keep 4 = .ok (.aload_n 0, 1) := by decide +kernel
theorem dX6_keep_5 : decode cX6_keep 5 = .ok (.getfield 10, 3) := by decide +kernel
theorem dX6_keep_8 : decode cX6_keep 8 = .ok (.invokevirtual 165, 3) := by decide +kernel
theorem dX6_keep_11 : decode cX6_keep 11 = .ok (.aload_n 0, 1) := by decide +kernel
theorem dX6_keep_12 : decode cX6_keep 12 = .ok (.iconst 1, 1) := by decide +kernel
theorem dX6_keep_13 : decode cX6_keep 13 = .ok (.putfield 33, 3) := by decide +kernel
theorem dX6_keep_16 : decode cX6_keep 16 = .ok (.aload_n 0, 1) := by decide +kernel
theorem dX6_keep_17 : decode cX6_keep 17 = .ok (.getfield 10, 3) := by decide +kernel
theorem dX6_keep_20 : decode cX6_keep 20 = .ok (.getfield 102, 3) := by decide +kernel
theorem dX6_keep_23 : decode cX6_keep 23 = .ok (.getfield 106, 3) := by decide +kernel
theorem dX6_keep_26 : decode cX6_keep 26 = .ok (.ireturn, 1) := by decide +kernel
set_option maxRecDepth 20000 in
theorem ggX6_restore_X0_record : GoodIn wsX6_restore wsX0_record := goodIn_r _ [9, 10, 11, 12, 13, 14, 8, 15, 16, 17, 18, 19, 20, 21, 22, 23, 24, 25, 26, 27, 28, 29, 30, 31, 32, 33, 34, 35, 36, 37, 38, 39, 40, 41, 42, 43, 44, 45, 46, 47, 48, 49, 50, 51, 52, 53, 73, 74, 75, 60, 61, 62, 63, 64, 65, 66, 67, 68, 69, 70, 71, 72, 76, 77, 78, 79] (by decide +kernel) (by decide +kernel)
set_option maxRecDepth 20000 in
theorem gX6_restore_X0_record : GoodIn wsX6_restore (wsV RX6 41 RX0 yX0_record wsX0_record) := goodIn_app (goodIn_of _ (by decide +kernel)) ggX6_restore_X0_record
set_option maxRecDepth 20000 in
theorem ggX6_restore_X4_copyFrom : GoodIn wsX6_restore wsX4_copyFrom := goodIn_r _ [21, 22, 23, 24, 25, 26, 27, 28, 29, 30, 31, 32, 33, 34, 35, 36, 37, 38, 39, 40, 41, 42, 43, 44, 45, 46, 47, 48, 49, 50, 51, 52, 53, 60, 61, 62, 63, 64, 65, 66, 67, 68, 69, 70, 71, 72, 76, 77, 78, 79] (by decide +kernel) (by decide +kernel)
set_option maxRecDepth 20000 in
theorem gX6_restore_X4_copyFrom : GoodIn wsX6_restore (wsV RX6 165 RX4 yX4_copyFrom wsX4_copyFrom) := goodIn_app (goodIn_of _ (by decide +kernel)) ggX6_restore_X4_copyFrom
theorem dX6_restore_0 : decode cX6_restore 0 = .ok (.aload_n 0, 1) := by decide +kernel
theorem dX6_restore_1 : decode cX6_restore 1 = .ok (.getfield 33, 3) := by decide +kernel
theorem dX6_restore_4 : decode cX6_restore 4 = .ok (.ifCond .ne 7, 3) := by decide +kernel
theorem dX6_restore_7 : decode cX6_restore 7 = .ok (.sipush (-1005), 3) := by decide +kernel
theorem dX6_restore_10 : decode cX6_restore 10 = .ok (.ireturn, 1) := by decide +kernel
theorem dX6_restore_11 : decode cX6_restore 11 = .ok (.aload_n 0, 1) := by decide +kernel
theorem dX6_restore_12 : decode cX6_restore 12 = .ok (.getfield 22, 3) := by decide +kernel
theorem dX6_restore_15 : decode cX6_restore 15 = .ok (.aload_n 0, 1) := by decide +kernel
theorem dX6_restore_16 : decode cX6_restore 16 = .ok (.getfield 10, 3) := by decide +kernel
theorem dX6_restore_19 : decode cX6_restore 19 = .ok (.invokevirtual 41, 3) := by decide +kernel
theorem dX6_restore_22 : decode cX6_restore 22 = .ok (.aload_n 0, 1) := by decide +kernel
theorem dX6_restore_23 : decode cX6_restore 23 = .ok (.getfield 10, 3) := by decide +kernel
theorem dX6_restore_26 : decode cX6_restore 26 = .ok (.aload_n 0, 1) := by decide +kernel
theorem dX6_restore_27 : decode cX6_restore 27 = .ok (.getfield 16, 3) := by decide +kernel
theorem dX6_restore_30 : decode cX6_restore 30 = .ok (.invokevirtual 165, 3) := by decide +kernel
theorem dX6_restore_33 : decode cX6_restore 33 = .ok (.aload_n 0, 1) := by decide +kernel
theorem dX6_restore_34 : decode cX6_restore 34 = .ok (.getfield 10, 3) := by decide +kernel
theorem dX6_restore_37 : decode cX6_restore 37 = .ok (.getfield 102, 3) := by decide +kernel
theorem dX6_restore_40 : decode cX6_restore 40 = .ok (.getfield 106, 3) := by decide +kernel
theorem dX6_restore_43 : decode cX6_restore 43 = .ok (.ireturn, 1) := by decide +kernel
set_option maxRecDepth 20000 in
theorem ggX6_name_X1_isTaken : GoodIn wsX6_name wsX1_isTaken := goodIn_r _ [6, 7, 165, 166, 167] (by decide +kernel) (by decide +kernel)
set_option maxRecDepth 20000 in
theorem gX6_name_X1_isTaken : GoodIn wsX6_name (wsV RX6 122 RX1 yX1_isTaken wsX1_isTaken) := goodIn_app (goodIn_of _ (by decide +kernel)) ggX6_name_X1_isTaken
set_option maxRecDepth 20000 in
theorem ggX6_name_X1_lengthOf : GoodIn wsX6_name wsX1_lengthOf := goodIn_r _ [11, 12, 165, 166, 167] (by decide +kernel) (by decide +kernel)
set_option maxRecDepth 20000 in
theorem gX6_name_X1_lengthOf : GoodIn wsX6_name (wsV RX6 168 RX1 yX1_lengthOf wsX1_lengthOf) := goodIn_app (goodIn_of _ (by decide +kernel)) ggX6_name_X1_lengthOf
set_option maxRecDepth 20000 in
theorem ggX6_name_X4_unitsOf : GoodIn wsX6_name wsX4_unitsOf := goodIn_r _ [17, 18, 19, 9, 10, 5, 11, 12, 20, 21, 22, 16, 23, 24, 25, 26, 27, 28, 29, 30, 31, 32, 33, 34, 35, 36, 37, 38, 39, 40, 41, 42, 43, 44, 45, 46, 47, 48, 49, 50, 51, 52, 53, 54, 55, 56, 57, 155, 156, 157, 158, 159, 160, 161, 162, 163, 164, 165, 166, 167, 168, 169, 170, 171] (by decide +kernel) (by decide +kernel)
set_option maxRecDepth 20000 in
theorem gX6_name_X4_unitsOf : GoodIn wsX6_name (wsV RX6 171 RX4 yX4_unitsOf wsX4_unitsOf) := goodIn_app (goodIn_of _ (by decide +kernel)) ggX6_name_X4_unitsOf
set_option maxRecDepth 20000 in
theorem ggX6_name_X4_isEngraved : GoodIn wsX6_name wsX4_isEngraved := goodIn_r _ [61, 62, 155, 156, 157, 158, 159, 160, 161, 162, 163, 164] (by decide +kernel) (by decide +kernel)
set_option maxRecDepth 20000 in
theorem gX6_name_X4_isEngraved : GoodIn wsX6_name (wsV RX6 133 RX4 yX4_isEngraved wsX4_isEngraved) := goodIn_app (goodIn_of _ (by decide +kernel)) ggX6_name_X4_isEngraved
set_option maxRecDepth 20000 in
theorem ggX6_name_X4_rowOf : GoodIn wsX6_name wsX4_rowOf := goodIn_r _ [66, 67, 68, 69, 16, 70, 71, 72, 73, 74, 155, 156, 157, 158, 159, 160, 161, 162, 163, 164] (by decide +kernel) (by decide +kernel)
set_option maxRecDepth 20000 in
theorem gX6_name_X4_rowOf : GoodIn wsX6_name (wsV RX6 174 RX4 yX4_rowOf wsX4_rowOf) := goodIn_app (goodIn_of _ (by decide +kernel)) ggX6_name_X4_rowOf
set_option maxRecDepth 20000 in
theorem ggX6_name_X4_columnOf : GoodIn wsX6_name wsX4_columnOf := goodIn_r _ [78, 67, 155, 156, 157, 158, 159, 160, 161, 162, 163, 164] (by decide +kernel) (by decide +kernel)
set_option maxRecDepth 20000 in
theorem gX6_name_X4_columnOf : GoodIn wsX6_name (wsV RX6 177 RX4 yX4_columnOf wsX4_columnOf) := goodIn_app (goodIn_of _ (by decide +kernel)) ggX6_name_X4_columnOf
set_option maxRecDepth 20000 in
theorem ggX6_name_X4_inkOf : GoodIn wsX6_name wsX4_inkOf := goodIn_r _ [82, 18, 19, 9, 10, 5, 11, 12, 24, 25, 26, 27, 28, 83, 84, 31, 85, 155, 156, 157, 158, 159, 160, 161, 162, 163, 164, 165, 166, 167] (by decide +kernel) (by decide +kernel)
set_option maxRecDepth 20000 in
theorem gX6_name_X4_inkOf : GoodIn wsX6_name (wsV RX6 180 RX4 yX4_inkOf wsX4_inkOf) := goodIn_app (goodIn_of _ (by decide +kernel)) ggX6_name_X4_inkOf
set_option maxRecDepth 20000 in
theorem ggX6_name_X4_sizeNow : GoodIn wsX6_name wsX4_sizeNow := goodIn_r _ [89, 90, 91, 92, 18, 93, 94, 95, 16, 96, 62, 97, 98, 99, 100, 38, 39, 40, 41, 101, 14, 15, 17, 19, 9, 10, 5, 11, 12, 20, 21, 22, 23, 24, 25, 26, 27, 28, 29, 30, 31, 32, 33, 34, 35, 36, 37, 42, 43, 44, 45, 46, 47, 48, 49, 50, 51, 52, 53, 54, 55, 56, 57, 102, 103, 104, 105, 106, 107, 108, 109, 110, 67, 68, 69, 70, 71, 72, 73, 74, 111, 112, 113, 114, 155, 156, 157, 158, 159, 160, 161, 162, 163, 164, 165, 166, 167, 168, 169, 170, 171] (by decide +kernel) (by decide +kernel)
set_option maxRecDepth 20000 in
theorem gX6_name_X4_sizeNow : GoodIn wsX6_name (wsV RX6 140 RX4 yX4_sizeNow wsX4_sizeNow) := goodIn_app (goodIn_of _ (by decide +kernel)) ggX6_name_X4_sizeNow
set_option maxRecDepth 20000 in
theorem ggX6_name_X6_nameBySize : GoodIn wsX6_name wsX6_nameBySize := goodIn_r _ [119, 1, 120, 121, 122, 16, 123, 91, 92, 106, 101, 14, 15, 17, 18, 19, 9, 10, 5, 11, 12, 20, 21, 22, 23, 24, 25, 26, 27, 28, 29, 30, 31, 32, 33, 34, 35, 36, 37, 38, 39, 40, 41, 42, 43, 44, 45, 46, 47, 48, 49, 50, 51, 52, 53, 54, 55, 56, 57, 111, 112, 113, 114, 67, 68, 69, 70, 71, 72, 73, 74, 124, 64, 65, 66, 125, 126, 127, 128, 129, 130, 131, 132, 133, 134, 135, 136, 76, 77, 78, 137, 80, 81, 82, 83, 84, 85, 138, 139, 140, 141, 142, 143, 144, 145, 13, 146, 147, 148, 149, 150, 151, 152, 153, 154, 155, 156, 157, 158, 159, 160, 161, 162, 163, 164, 165, 166, 167, 168, 169, 170, 171] (by decide +kernel) (by decide +kernel)
set_option maxRecDepth 20000 in
theorem gX6_name_X6_nameBySize : GoodIn wsX6_name (wsV RX6 183 RX6 yX6_nameBySize wsX6_nameBySize) := goodIn_app (goodIn_of _ (by decide +kernel)) ggX6_name_X6_nameBySize
theorem dX6_name_0 : decode cX6_name 0 = .ok (.aload_n 0, 1) := by decide +kernel
theorem dX6_name_1 : decode cX6_name 1 = .ok (.getfield 10, 3) := by decide +kernel
theorem dX6_name_4 : decode cX6_name 4 = .ok (.getfield 102, 3) := by decide +kernel
theorem dX6_name_7 : decode cX6_name 7 = .ok (.iload_n 1, 1) := by decide +kernel
theorem dX6_name_8 : decode cX6_name 8 = .ok (.invokevirtual 122, 3) := by decide +kernel
theorem dX6_name_11 : decode cX6_name 11 = .ok (.ifCond .ne 7, 3) := by decide +kernel
theorem dX6_name_14 : decode cX6_name 14 = .ok (.sipush (-1001), 3) := by decide +kernel
theorem dX6_name_17 : decode cX6_name 17 = .ok (.ireturn, 1) := by decide +kernel
theorem dX6_name_18 : decode cX6_name 18 = .ok (.iload_n 2, 1) := by decide +kernel
theorem dX6_name_19 : decode cX6_name 19 = .ok (.tableswitch 122 0 10 #[57, 69, 78, 95, 104, 122, 122, 122, 122, 122, 113], 57) := by decide +kernel
theorem dX6_name_76 : decode cX6_name 76 = .ok (.aload_n 0, 1) := by decide +kernel
theorem dX6_name_77 : decode cX6_name 77 = .ok (.getfield 10, 3) := by decide +kernel
theorem dX6_name_80 : decode cX6_name 80 = .ok (.getfield 102, 3) := by decide +kernel
theorem dX6_name_83 : decode cX6_name 83 = .ok (.iload_n 1, 1) := by decide +kernel
theorem dX6_name_84 : decode cX6_name 84 = .ok (.invokevirtual 168, 3) := by decide +kernel
theorem dX6_name_87 : decode cX6_name 87 = .ok (.ireturn, 1) := by decide +kernel
theorem dX6_name_88 : decode cX6_name 88 = .ok (.aload_n 0, 1) := by decide +kernel
theorem dX6_name_89 : decode cX6_name 89 = .ok (.getfield 10, 3) := by decide +kernel
theorem dX6_name_92 : decode cX6_name 92 = .ok (.iload_n 1, 1) := by decide +kernel
theorem dX6_name_93 : decode cX6_name 93 = .ok (.invokevirtual 171, 3) := by decide +kernel
theorem dX6_name_96 : decode cX6_name 96 = .ok (.ireturn, 1) := by decide +kernel
theorem dX6_name_97 : decode cX6_name 97 = .ok (.aload_n 0, 1) := by decide +kernel
theorem dX6_name_98 : decode cX6_name 98 = .ok (.getfield 10, 3) := by decide +kernel
theorem dX6_name_101 : decode cX6_name 101 = .ok (.iload_n 1, 1) := by decide +kernel
theorem dX6_name_102 : decode cX6_name 102 = .ok (.invokevirtual 133, 3) := by decide +kernel
theorem dX6_name_105 : decode cX6_name 105 = .ok (.ifCond .eq 7, 3) := by decide +kernel
theorem dX6_name_108 : decode cX6_name 108 = .ok (.iconst 1, 1) := by decide +kernel
theorem dX6_name_109 : decode cX6_name 109 = .ok (.goto 4, 3) := by decide +kernel
theorem dX6_name_112 : decode cX6_name 112 = .ok (.iconst 0, 1) := by decide +kernel
theorem dX6_name_113 : decode cX6_name 113 = .ok (.ireturn, 1) := by decide +kernel
theorem dX6_name_114 : decode cX6_name 114 = .ok (.aload_n 0, 1) := by decide +kernel
theorem dX6_name_115 : decode cX6_name 115 = .ok (.getfield 10, 3) := by decide +kernel
theorem dX6_name_118 : decode cX6_name 118 = .ok (.iload_n 1, 1) := by decide +kernel
theorem dX6_name_119 : decode cX6_name 119 = .ok (.invokevirtual 174, 3) := by decide +kernel
theorem dX6_name_122 : decode cX6_name 122 = .ok (.ireturn, 1) := by decide +kernel
theorem dX6_name_123 : decode cX6_name 123 = .ok (.aload_n 0, 1) := by decide +kernel
theorem dX6_name_124 : decode cX6_name 124 = .ok (.getfield 10, 3) := by decide +kernel
theorem dX6_name_127 : decode cX6_name 127 = .ok (.iload_n 1, 1) := by decide +kernel
theorem dX6_name_128 : decode cX6_name 128 = .ok (.invokevirtual 177, 3) := by decide +kernel
theorem dX6_name_131 : decode cX6_name 131 = .ok (.ireturn, 1) := by decide +kernel
theorem dX6_name_132 : decode cX6_name 132 = .ok (.aload_n 0, 1) := by decide +kernel
theorem dX6_name_133 : decode cX6_name 133 = .ok (.getfield 10, 3) := by decide +kernel
theorem dX6_name_136 : decode cX6_name 136 = .ok (.iload_n 1, 1) := by decide +kernel
theorem dX6_name_137 : decode cX6_name 137 = .ok (.invokevirtual 180, 3) := by decide +kernel
theorem dX6_name_140 : decode cX6_name 140 = .ok (.ireturn, 1) := by decide +kernel
theorem dX6_name_141 : decode cX6_name 141 = .ok (.aload_n 0, 1) := by decide +kernel
theorem dX6_name_142 : decode cX6_name 142 = .ok (.iload_n 1, 1) := by decide +kernel
theorem dX6_name_143 : decode cX6_name 143 = .ok (.iload_n 2, 1) := by decide +kernel
theorem dX6_name_144 : decode cX6_name 144 = .ok (.aload_n 0, 1) := by decide +kernel
theorem dX6_name_145 : decode cX6_name 145 = .ok (.getfield 10, 3) := by decide +kernel
theorem dX6_name_148 : decode cX6_name 148 = .ok (.invokevirtual 140, 3) := by decide +kernel
theorem dX6_name_151 : decode cX6_name 151 = .ok (.invokevirtual 183, 3) := by decide +kernel
theorem dX6_name_154 : decode cX6_name 154 = .ok (.ireturn, 1) := by decide +kernel
set_option maxRecDepth 20000 in
theorem ggX6_nameBySize_X4_fits : GoodIn wsX6_nameBySize wsX4_fits := goodIn_r _ [6, 7, 8, 9, 10, 11, 12, 5, 13, 14, 15, 16, 17, 18, 19, 20, 21, 22, 23, 24, 25, 26, 27, 28, 29, 30, 31, 32, 33, 34, 35, 36, 37, 38, 39, 40, 41, 42, 43, 44, 45, 46, 47, 48, 49, 50, 51, 52, 53, 54, 55, 56, 57, 58, 59, 60, 61, 62, 63, 64, 65, 66, 67, 68, 69, 70, 71, 72, 73, 74, 115, 116, 117, 118, 119, 120, 121, 122, 123, 124, 125, 126, 127, 128, 129, 130, 131] (by decide +kernel) (by decide +kernel)
set_option maxRecDepth 20000 in
theorem gX6_nameBySize_X4_fits : GoodIn wsX6_nameBySize (wsV RX6 143 RX4 yX4_fits wsX4_fits) := goodIn_app (goodIn_of _ (by decide +kernel)) ggX6_nameBySize_X4_fits
set_option maxRecDepth 20000 in
theorem ggX6_nameBySize_X4_beginOf : GoodIn wsX6_nameBySize wsX4_beginOf := goodIn_r _ [78, 7, 79, 80, 41, 81, 39, 40, 42, 59, 60, 61, 5, 62, 9, 63, 64, 65, 66, 67, 68, 69, 70, 82, 83, 84, 85, 86, 87, 88, 89, 90, 91, 92, 93, 14, 15, 16, 17, 18, 19, 20, 25, 26, 27, 28, 29, 94, 95, 32, 96, 97, 98, 99, 100, 30, 31, 33, 34, 35, 36, 37, 38, 43, 44, 45, 46, 47, 48, 49, 50, 51, 52, 53, 54, 55, 56, 57, 58, 10, 11, 12, 13, 21, 22, 23, 24, 115, 116, 117, 118, 119, 120, 121, 122, 123, 124, 125, 126, 127, 128, 129, 130, 131] (by decide +kernel) (by decide +kernel)
set_option maxRecDepth 20000 in
theorem gX6_nameBySize_X4_beginOf : GoodIn wsX6_nameBySize (wsV RX6 149 RX4 yX4_beginOf wsX4_beginOf) := goodIn_app (goodIn_of _ (by decide +kernel)) ggX6_nameBySize_X4_beginOf
set_option maxRecDepth 20000 in
theorem ggX6_nameBySize_X4_rowBegin : GoodIn wsX6_nameBySize wsX4_rowBegin := goodIn_r _ [104, 9, 71, 72, 73, 5, 74, 63, 64, 65, 66, 67, 68, 69, 70, 115, 116, 117, 118, 119, 120, 121, 122, 123, 124] (by decide +kernel) (by decide +kernel)
set_option maxRecDepth 20000 in
theorem gX6_nameBySize_X4_rowBegin : GoodIn wsX6_nameBySize (wsV RX6 187 RX4 yX4_rowBegin wsX4_rowBegin) := goodIn_app (goodIn_of _ (by decide +kernel)) ggX6_nameBySize_X4_rowBegin
set_option maxRecDepth 20000 in
theorem ggX6_nameBySize_X4_unitsOf : GoodIn wsX6_nameBySize wsX4_unitsOf := goodIn_r _ [13, 14, 15, 16, 17, 18, 19, 20, 21, 22, 23, 5, 24, 25, 26, 27, 28, 29, 30, 31, 32, 33, 34, 35, 36, 37, 38, 39, 40, 41, 42, 43, 44, 45, 46, 47, 48, 49, 50, 51, 52, 53, 54, 55, 56, 57, 58, 115, 116, 117, 118, 119, 120, 121, 122, 123, 124, 125, 126, 127, 128, 129, 130, 131] (by decide +kernel) (by decide +kernel)
set_option maxRecDepth 20000 in
theorem gX6_nameBySize_X4_unitsOf : GoodIn wsX6_nameBySize (wsV RX6 171 RX4 yX4_unitsOf wsX4_unitsOf) := goodIn_app (goodIn_of _ (by decide +kernel)) ggX6_nameBySize_X4_unitsOf
set_option maxRecDepth 20000 in
theorem ggX6_nameBySize_X4_middleBegin : GoodIn wsX6_nameBySize wsX4_middleBegin := goodIn_r _ [109, 7, 39, 40, 41, 42, 82, 83, 84, 5, 85, 9, 86, 87, 88, 89, 63, 59, 60, 61, 62, 64, 65, 66, 67, 68, 69, 70, 10, 11, 12, 13, 14, 15, 16, 17, 18, 19, 20, 21, 22, 23, 24, 25, 26, 27, 28, 29, 30, 31, 32, 33, 34, 35, 36, 37, 38, 43, 44, 45, 46, 47, 48, 49, 50, 51, 52, 53, 54, 55, 56, 57, 58, 115, 116, 117, 118, 119, 120, 121, 122, 123, 124, 125, 126, 127, 128, 129, 130, 131] (by decide +kernel) (by decide +kernel)
set_option maxRecDepth 20000 in
theorem gX6_nameBySize_X4_middleBegin : GoodIn wsX6_nameBySize (wsV RX6 190 RX4 yX4_middleBegin wsX4_middleBegin) := goodIn_app (goodIn_of _ (by decide +kernel)) ggX6_nameBySize_X4_middleBegin
theorem dX6_nameBySize_0 : decode cX6_nameBySize 0 = .ok (.iload_n 2, 1) := by decide +kernel
theorem dX6_nameBySize_1 : decode cX6_nameBySize 1 = .ok (.iconst 5, 1) := by decide +kernel
theorem dX6_nameBySize_2 : decode cX6_nameBySize 2 = .ok (.if_icmp .lt 9, 3) := by decide +kernel
theorem dX6_nameBySize_5 : decode cX6_nameBySize 5 = .ok (.iload_n 2, 1) := by decide +kernel
theorem dX6_nameBySize_6 : decode cX6_nameBySize 6 = .ok (.bipush 9, 2) := by decide +kernel
theorem dX6_nameBySize_8 : decode cX6_nameBySize 8 = .ok (.if_icmp .le 7, 3) := by decide +kernel
theorem dX6_nameBySize_11 : decode cX6_nameBySize 11 = .ok (.sipush (-1002), 3) := by decide +kernel
theorem dX6_nameBySize_14 : decode cX6_nameBySize 14 = .ok (.ireturn, 1) := by decide +kernel
theorem dX6_nameBySize_15 : decode cX6_nameBySize 15 = .ok (.iload_n 2, 1) := by decide +kernel
theorem dX6_nameBySize_16 : decode cX6_nameBySize 16 = .ok (.bipush 7, 2) := by decide +kernel
theorem dX6_nameBySize_18 : decode cX6_nameBySize 18 = .ok (.if_icmp .ne 21, 3) := by decide +kernel
theorem dX6_nameBySize_21 : decode cX6_nameBySize 21 = .ok (.aload_n 0, 1) := by decide +kernel
theorem dX6_nameBySize_22 : decode cX6_nameBySize 22 = .ok (.getfield 10, 3) := by decide +kernel
theorem dX6_nameBySize_25 : decode cX6_nameBySize 25 = .ok (.iload_n 1, 1) := by decide +kernel
theorem dX6_nameBySize_26 : decode cX6_nameBySize 26 = .ok (.iload_n 3, 1) := by decide +kernel
theorem dX6_nameBySize_27 : decode cX6_nameBySize 27 = .ok (.invokevirtual 143, 3) := by decide +kernel
theorem dX6_nameBySize_30 : decode cX6_nameBySize 30 = .ok (.ifCond .eq 7, 3) := by decide +kernel
theorem dX6_nameBySize_33 : decode cX6_nameBySize 33 = .ok (.iconst 1, 1) := by decide +kernel
theorem dX6_nameBySize_34 : decode cX6_nameBySize 34 = .ok (.goto 4, 3) := by decide +kernel
theorem dX6_nameBySize_37 : decode cX6_nameBySize 37 = .ok (.iconst 0, 1) := by decide +kernel
theorem dX6_nameBySize_38 : decode cX6_nameBySize 38 = .ok (.ireturn, 1) := by decide +kernel
theorem dX6_nameBySize_39 : decode cX6_nameBySize 39 = .ok (.iload_n 3, 1) := by decide +kernel
theorem dX6_nameBySize_40 : decode cX6_nameBySize 40 = .ok (.ifCond .ne 7, 3) := by decide +kernel
theorem dX6_nameBySize_43 : decode cX6_nameBySize 43 = .ok (.sipush (-1005), 3) := by decide +kernel
theorem dX6_nameBySize_46 : decode cX6_nameBySize 46 = .ok (.ireturn, 1) := by decide +kernel
theorem dX6_nameBySize_47 : decode cX6_nameBySize 47 = .ok (.iload_n 2, 1) := by decide +kernel
theorem dX6_nameBySize_48 : decode cX6_nameBySize 48 = .ok (.tableswitch 63 5 8 #[32, 42, 63, 52], 32) := by decide +kernel
theorem dX6_nameBySize_80 : decode cX6_nameBySize 80 = .ok (.aload_n 0, 1) := by decide +kernel
theorem dX6_nameBySize_81 : decode cX6_nameBySize 81 = .ok (.getfield 10, 3) := by decide +kernel
theorem dX6_nameBySize_84 : decode cX6_nameBySize 84 = .ok (.iload_n 1, 1) := by decide +kernel
theorem dX6_nameBySize_85 : decode cX6_nameBySize 85 = .ok (.iload_n 3, 1) := by decide +kernel
theorem dX6_nameBySize_86 : decode cX6_nameBySize 86 = .ok (.invokevirtual 149, 3) := by decide +kernel
theorem dX6_nameBySize_89 : decode cX6_nameBySize 89 = .ok (.ireturn, 1) := by decide +kernel
theorem dX6_nameBySize_90 : decode cX6_nameBySize 90 = .ok (.aload_n 0, 1) := by decide +kernel
theorem dX6_nameBySize_91 : decode cX6_nameBySize 91 = .ok (.getfield 10, 3) := by decide +kernel
theorem dX6_nameBySize_94 : decode cX6_nameBySize 94 = .ok (.iload_n 1, 1) := by decide +kernel
theorem dX6_nameBySize_95 : decode cX6_nameBySize 95 = .ok (.iload_n 3, 1) := by decide +kernel
theorem dX6_nameBySize_96 : decode cX6_nameBySize 96 = .ok (.invokevirtual 187, 3) := by decide +kernel
theorem dX6_nameBySize_99 : decode cX6_nameBySize 99 = .ok (.ireturn, 1) := by decide +kernel
theorem dX6_nameBySize_100 : decode cX6_nameBySize 100 = .ok (.aload_n 0, 1) := by decide +kernel
theorem dX6_nameBySize_101 : decode cX6_nameBySize 101 = .ok (.getfield 10, 3) := by decide +kernel
theorem dX6_nameBySize_104 : decode cX6_nameBySize 104 = .ok (.iload_n 1, 1) := by decide +kernel
theorem dX6_nameBySize_105 : decode cX6_nameBySize 105 = .ok (.invokevirtual 171, 3) := by decide +kernel
theorem dX6_nameBySize_108 : decode cX6_nameBySize 108 = .ok (.iload_n 3, 1) := by decide +kernel
theorem dX6_nameBySize_109 : decode cX6_nameBySize 109 = .ok (.imul, 1) := by decide +kernel
theorem dX6_nameBySize_110 : decode cX6_nameBySize 110 = .ok (.ireturn, 1) := by decide +kernel
theorem dX6_nameBySize_111 : decode cX6_nameBySize 111 = .ok (.aload_n 0, 1) := by decide +kernel
theorem dX6_nameBySize_112 : decode cX6_nameBySize 112 = .ok (.getfield 10, 3) := by decide +kernel
theorem dX6_nameBySize_115 : decode cX6_nameBySize 115 = .ok (.iload_n 1, 1) := by decide +kernel
theorem dX6_nameBySize_116 : decode cX6_nameBySize 116 = .ok (.iload_n 3, 1) := by decide +kernel
theorem dX6_nameBySize_117 : decode cX6_nameBySize 117 = .ok (.invokevirtual 190, 3) := by decide +kernel
theorem dX6_nameBySize_120 : decode cX6_nameBySize 120 = .ok (.ireturn, 1) := by decide +kernel
set_option maxRecDepth 20000 in
theorem ggX6_sign_X1_isIn : GoodIn wsX6_sign wsX1_isIn := goodIn_r _ [6, 7, 8, 9, 5, 10, 11, 12, 13, 14, 15, 16, 157, 158, 159] (by decide +kernel) (by decide +kernel)
set_option maxRecDepth 20000 in
theorem gX6_sign_X1_isIn : GoodIn wsX6_sign (wsV RX6 193 RX1 yX1_isIn wsX1_isIn) := goodIn_app (goodIn_of _ (by decide +kernel)) ggX6_sign_X1_isIn
set_option maxRecDepth 20000 in
theorem ggX6_sign_X1_codeAt : GoodIn wsX6_sign wsX1_codeAt := goodIn_r _ [20, 21, 157, 158, 159] (by decide +kernel) (by decide +kernel)
set_option maxRecDepth 20000 in
theorem gX6_sign_X1_codeAt : GoodIn wsX6_sign (wsV RX6 196 RX1 yX1_codeAt wsX1_codeAt) := goodIn_app (goodIn_of _ (by decide +kernel)) ggX6_sign_X1_codeAt
set_option maxRecDepth 20000 in
theorem ggX6_sign_X4_unitsBefore : GoodIn wsX6_sign wsX4_unitsBefore := goodIn_r _ [26, 27, 28, 18, 19, 5, 20, 21, 29, 30, 31, 32, 33, 34, 35, 25, 36, 37, 38, 39, 40, 41, 42, 13, 14, 15, 16, 43, 44, 45, 46, 47, 48, 49, 50, 51, 52, 53, 54, 55, 56, 57, 58, 147, 148, 149, 150, 151, 152, 153, 154, 155, 156, 157, 158, 159, 160, 161, 162, 163] (by decide +kernel) (by decide +kernel)
set_option maxRecDepth 20000 in
theorem gX6_sign_X4_unitsBefore : GoodIn wsX6_sign (wsV RX6 200 RX4 yX4_unitsBefore wsX4_unitsBefore) := goodIn_app (goodIn_of _ (by decide +kernel)) ggX6_sign_X4_unitsBefore
set_option maxRecDepth 20000 in
theorem ggX6_sign_X3_width : GoodIn wsX6_sign wsX3_width := goodIn_r _ [32] (by decide +kernel) (by decide +kernel)
set_option maxRecDepth 20000 in
theorem gX6_sign_X3_width : GoodIn wsX6_sign (va_wsS RX6 203 yX3_width wsX3_width) := goodIn_app (goodIn_of _ (by decide +kernel)) ggX6_sign_X3_width
set_option maxRecDepth 20000 in
theorem ggX6_sign_X1_isLast : GoodIn wsX6_sign wsX1_isLast := goodIn_r _ [63, 12, 13, 14, 5, 15, 16, 157, 158, 159] (by decide +kernel) (by decide +kernel)
set_option maxRecDepth 20000 in
theorem gX6_sign_X1_isLast : GoodIn wsX6_sign (wsV RX6 207 RX1 yX1_isLast wsX1_isLast) := goodIn_app (goodIn_of _ (by decide +kernel)) ggX6_sign_X1_isLast
set_option maxRecDepth 20000 in
theorem ggX6_sign_X4_spaceBehind : GoodIn wsX6_sign wsX4_spaceBehind := goodIn_r _ [36, 27, 37, 38, 39, 40, 41, 42, 13, 14, 5, 15, 16, 28, 18, 19, 20, 21, 43, 44, 45, 46, 47, 48, 49, 50, 51, 52, 53, 54, 55, 56, 57, 31, 58, 147, 148, 149, 150, 151, 152, 153, 154, 155, 156, 157, 158, 159, 160, 161, 162, 163] (by decide +kernel) (by decide +kernel)
set_option maxRecDepth 20000 in
theorem gX6_sign_X4_spaceBehind : GoodIn wsX6_sign (wsV RX6 210 RX4 yX4_spaceBehind wsX4_spaceBehind) := goodIn_app (goodIn_of _ (by decide +kernel)) ggX6_sign_X4_spaceBehind
set_option maxRecDepth 20000 in
theorem ggX6_sign_X4_measuredSpace : GoodIn wsX6_sign wsX4_measuredSpace := goodIn_r _ [68, 27, 33, 34, 35, 25, 36, 37, 38, 39, 40, 41, 42, 13, 14, 5, 15, 16, 28, 18, 19, 20, 21, 43, 44, 45, 46, 47, 48, 49, 50, 51, 52, 53, 54, 55, 56, 57, 31, 58, 147, 148, 149, 150, 151, 152, 153, 154, 155, 156, 157, 158, 159, 160, 161, 162, 163] (by decide +kernel) (by decide +kernel)
set_option maxRecDepth 20000 in
theorem gX6_sign_X4_measuredSpace : GoodIn wsX6_sign (wsV RX6 213 RX4 yX4_measuredSpace wsX4_measuredSpace) := goodIn_app (goodIn_of _ (by decide +kernel)) ggX6_sign_X4_measuredSpace
set_option maxRecDepth 20000 in
theorem ggX6_sign_X4_sizeNow : GoodIn wsX6_sign wsX4_sizeNow := goodIn_r _ [72, 73, 74, 75, 27, 76, 77, 78, 25, 79, 80, 81, 82, 83, 84, 38, 39, 40, 41, 85, 86, 87, 88, 42, 13, 14, 5, 15, 16, 89, 23, 24, 26, 28, 18, 19, 20, 21, 29, 30, 31, 32, 33, 34, 35, 36, 37, 43, 44, 45, 46, 47, 48, 49, 50, 51, 52, 53, 54, 55, 56, 57, 58, 90, 91, 92, 93, 94, 95, 96, 97, 98, 99, 100, 101, 102, 103, 104, 105, 106, 107, 108, 109, 110, 147, 148, 149, 150, 151, 152, 153, 154, 155, 156, 157, 158, 159, 160, 161, 162, 163] (by decide +kernel) (by decide +kernel)
set_option maxRecDepth 20000 in
theorem gX6_sign_X4_sizeNow : GoodIn wsX6_sign (wsV RX6 140 RX4 yX4_sizeNow wsX4_sizeNow) := goodIn_app (goodIn_of _ (by decide +kernel)) ggX6_sign_X4_sizeNow
set_option maxRecDepth 20000 in
theorem ggX6_sign_X6_signBegin : GoodIn wsX6_sign wsX6_signBegin := goodIn_r _ [115, 1, 116, 117, 118, 25, 119, 74, 120, 121, 40, 122, 38, 39, 41, 107, 108, 109, 110, 94, 99, 100, 101, 102, 103, 104, 105, 106, 123, 124, 125, 126, 127, 128, 129, 130, 131, 132, 133, 134, 27, 42, 13, 14, 5, 15, 16, 28, 18, 19, 20, 21, 135, 136, 31, 137, 138, 139, 140, 141, 29, 30, 32, 33, 34, 35, 36, 37, 43, 44, 45, 46, 47, 48, 49, 50, 51, 52, 53, 54, 55, 56, 57, 58, 85, 86, 87, 88, 89, 23, 24, 26, 22, 142, 143, 144, 145, 146, 147, 148, 149, 150, 151, 152, 153, 154, 155, 156, 157, 158, 159, 160, 161, 162, 163] (by decide +kernel) (by decide +kernel)
set_option maxRecDepth 20000 in
theorem gX6_sign_X6_signBegin : GoodIn wsX6_sign (wsV RX6 216 RX6 yX6_signBegin wsX6_signBegin) := goodIn_app (goodIn_of _ (by decide +kernel)) ggX6_sign_X6_signBegin
theorem dX6_sign_0 : decode cX6_sign 0 = .ok (.aload_n 0, 1) := by decide +kernel
theorem dX6_sign_1 : decode cX6_sign 1 = .ok (.getfield 10, 3) := by decide +kernel
theorem dX6_sign_4 : decode cX6_sign 4 = .ok (.getfield 102, 3) := by decide +kernel
theorem dX6_sign_7 : decode cX6_sign 7 = .ok (.iload_n 1, 1) := by decide +kernel
theorem dX6_sign_8 : decode cX6_sign 8 = .ok (.iload_n 2, 1) := by decide +kernel
theorem dX6_sign_9 : decode cX6_sign 9 = .ok (.invokevirtual 193, 3) := by decide +kernel
theorem dX6_sign_12 : decode cX6_sign 12 = .ok (.ifCond .ne 7, 3) := by decide +kernel
theorem dX6_sign_15 : decode cX6_sign 15 = .ok (.sipush (-1001), 3) := by decide +kernel
theorem dX6_sign_18 : decode cX6_sign 18 = .ok (.ireturn, 1) := by decide +kernel
theorem dX6_sign_19 : decode cX6_sign 19 = .ok (.aload_n 0, 1) := by decide +kernel
theorem dX6_sign_20 : decode cX6_sign 20 = .ok (.getfield 10, 3) := by decide +kernel
theorem dX6_sign_23 : decode cX6_sign 23 = .ok (.getfield 102, 3) := by decide +kernel
theorem dX6_sign_26 : decode cX6_sign 26 = .ok (.iload_n 1, 1) := by decide +kernel
theorem dX6_sign_27 : decode cX6_sign 27 = .ok (.iload_n 2, 1) := by decide +kernel
theorem dX6_sign_28 : decode cX6_sign 28 = .ok (.invokevirtual 196, 3) := by decide +kernel
theorem dX6_sign_31 : decode cX6_sign 31 = .ok (.istore 4, 2) := by decide +kernel
theorem dX6_sign_33 : decode cX6_sign 33 = .ok (.iload_n 3, 1) := by decide +kernel
theorem dX6_sign_34 : decode cX6_sign 34 = .ok (.tableswitch 133 0 5 #[38, 41, 51, 57, 88, 119], 38) := by decide +kernel
theorem dX6_sign_72 : decode cX6_sign 72 = .ok (.iload 4, 2) := by decide +kernel
theorem dX6_sign_74 : decode cX6_sign 74 = .ok (.ireturn, 1) := by decide +kernel
theorem dX6_sign_75 : decode cX6_sign 75 = .ok (.aload_n 0, 1) := by decide +kernel
theorem dX6_sign_76 : decode cX6_sign 76 = .ok (.getfield 10, 3) := by decide +kernel
theorem dX6_sign_79 : decode cX6_sign 79 = .ok (.iload_n 1, 1) := by decide +kernel
theorem dX6_sign_80 : decode cX6_sign 80 = .ok (.iload_n 2, 1) := by decide +kernel
theorem dX6_sign_81 : decode cX6_sign 81 = .ok (.invokevirtual 200, 3) := by decide +kernel
theorem dX6_sign_84 : decode cX6_sign 84 = .ok (.ireturn, 1) := by decide +kernel
theorem dX6_sign_85 : decode cX6_sign 85 = .ok (.iload 4, 2) := by decide +kernel
theorem dX6_sign_87 : decode cX6_sign 87 = .ok (.invokestatic 203, 3) := by decide +kernel
theorem dX6_sign_90 : decode cX6_sign 90 = .ok (.ireturn, 1) := by decide +kernel
theorem dX6_sign_91 : decode cX6_sign 91 = .ok (.aload_n 0, 1) := by decide +kernel
theorem dX6_sign_92 : decode cX6_sign 92 = .ok (.getfield 10, 3) := by decide +kernel
theorem dX6_sign_95 : decode cX6_sign 95 = .ok (.getfield 102, 3) := by decide +kernel
theorem dX6_sign_98 : decode cX6_sign 98 = .ok (.iload_n 1, 1) := by decide +kernel
theorem dX6_sign_99 : decode cX6_sign 99 = .ok (.iload_n 2, 1) := by decide +kernel
theorem dX6_sign_100 : decode cX6_sign 100 = .ok (.invokevirtual 207, 3) := by decide +kernel
theorem dX6_sign_103 : decode cX6_sign 103 = .ok (.ifCond .eq 9, 3) := by decide +kernel
theorem dX6_sign_106 : decode cX6_sign 106 = .ok (.sipush (-1005), 3) := by decide +kernel
theorem dX6_sign_109 : decode cX6_sign 109 = .ok (.goto 12, 3) := by decide +kernel
theorem dX6_sign_112 : decode cX6_sign 112 = .ok (.aload_n 0, 1) := by decide +kernel
theorem dX6_sign_113 : decode cX6_sign 113 = .ok (.getfield 10, 3) := by decide +kernel
theorem dX6_sign_116 : decode cX6_sign 116 = .ok (.iload_n 1, 1) := by decide +kernel
theorem dX6_sign_117 : decode cX6_sign 117 = .ok (.iload_n 2, 1) := by decide +kernel
theorem dX6_sign_118 : decode cX6_sign 118 = .ok (.invokevirtual 210, 3) := by decide +kernel
theorem dX6_sign_121 : decode cX6_sign 121 = .ok (.ireturn, 1) := by decide +kernel
theorem dX6_sign_122 : decode cX6_sign 122 = .ok (.aload_n 0, 1) := by decide +kernel
theorem dX6_sign_123 : decode cX6_sign 123 = .ok (.getfield 10, 3) := by decide +kernel
theorem dX6_sign_126 : decode cX6_sign 126 = .ok (.getfield 102, 3) := by decide +kernel
theorem dX6_sign_129 : decode cX6_sign 129 = .ok (.iload_n 1, 1) := by decide +kernel
theorem dX6_sign_130 : decode cX6_sign 130 = .ok (.iload_n 2, 1) := by decide +kernel
theorem dX6_sign_131 : decode cX6_sign 131 = .ok (.invokevirtual 207, 3) := by decide +kernel
theorem dX6_sign_134 : decode cX6_sign 134 = .ok (.ifCond .eq 9, 3) := by decide +kernel
theorem dX6_sign_137 : decode cX6_sign 137 = .ok (.sipush (-1005), 3) := by decide +kernel
theorem dX6_sign_140 : decode cX6_sign 140 = .ok (.goto 12, 3) := by decide +kernel
theorem dX6_sign_143 : decode cX6_sign 143 = .ok (.aload_n 0, 1) := by decide +kernel
theorem dX6_sign_144 : decode cX6_sign 144 = .ok (.getfield 10, 3) := by decide +kernel
theorem dX6_sign_147 : decode cX6_sign 147 = .ok (.iload_n 1, 1) := by decide +kernel
theorem dX6_sign_148 : decode cX6_sign 148 = .ok (.iload_n 2, 1) := by decide +kernel
theorem dX6_sign_149 : decode cX6_sign 149 = .ok (.invokevirtual 213, 3) := by decide +kernel
theorem dX6_sign_152 : decode cX6_sign 152 = .ok (.ireturn, 1) := by decide +kernel
theorem dX6_sign_153 : decode cX6_sign 153 = .ok (.aload_n 0, 1) := by decide +kernel
theorem dX6_sign_154 : decode cX6_sign 154 = .ok (.iload_n 1, 1) := by decide +kernel
theorem dX6_sign_155 : decode cX6_sign 155 = .ok (.iload_n 2, 1) := by decide +kernel
theorem dX6_sign_156 : decode cX6_sign 156 = .ok (.aload_n 0, 1) := by decide +kernel
theorem dX6_sign_157 : decode cX6_sign 157 = .ok (.getfield 10, 3) := by decide +kernel
theorem dX6_sign_160 : decode cX6_sign 160 = .ok (.invokevirtual 140, 3) := by decide +kernel
theorem dX6_sign_163 : decode cX6_sign 163 = .ok (.invokevirtual 216, 3) := by decide +kernel
theorem dX6_sign_166 : decode cX6_sign 166 = .ok (.ireturn, 1) := by decide +kernel
theorem dX6_sign_167 : decode cX6_sign 167 = .ok (.sipush (-1002), 3) := by decide +kernel
theorem dX6_sign_170 : decode cX6_sign 170 = .ok (.ireturn, 1) := by decide +kernel
set_option maxRecDepth 20000 in
theorem ggX6_signBegin_X4_beginOf : GoodIn wsX6_signBegin wsX4_beginOf := goodIn_r _ [6, 7, 8, 9, 10, 11, 12, 13, 14, 15, 16, 17, 5, 18, 19, 20, 21, 22, 23, 24, 25, 26, 27, 28, 29, 30, 31, 32, 33, 34, 35, 36, 37, 38, 39, 40, 41, 42, 43, 44, 45, 46, 47, 48, 49, 50, 51, 52, 53, 54, 55, 56, 57, 58, 59, 60, 61, 62, 63, 64, 65, 66, 67, 68, 69, 70, 71, 72, 73, 74, 75, 76, 77, 78, 79, 80, 81, 82, 83, 84, 85, 86, 87, 88, 89, 90, 91, 98, 99, 100, 101, 102, 103, 104, 105, 106, 107, 108, 109, 110, 111, 112, 113, 114] (by decide +kernel) (by decide +kernel)
set_option maxRecDepth 20000 in
theorem gX6_signBegin_X4_beginOf : GoodIn wsX6_signBegin (wsV RX6 149 RX4 yX4_beginOf wsX4_beginOf) := goodIn_app (goodIn_of _ (by decide +kernel)) ggX6_signBegin_X4_beginOf
set_option maxRecDepth 20000 in
theorem ggX6_signBegin_X4_unitsBefore : GoodIn wsX6_signBegin wsX4_unitsBefore := goodIn_r _ [91, 40, 47, 48, 49, 44, 50, 51, 60, 61, 54, 62, 63, 64, 65, 5, 66, 67, 12, 13, 10, 14, 41, 42, 43, 45, 46, 68, 69, 70, 71, 72, 73, 74, 75, 76, 77, 78, 79, 80, 81, 82, 83, 98, 99, 100, 101, 102, 103, 104, 105, 106, 107, 108, 109, 110, 111, 112, 113, 114] (by decide +kernel) (by decide +kernel)
set_option maxRecDepth 20000 in
theorem gX6_signBegin_X4_unitsBefore : GoodIn wsX6_signBegin (wsV RX6 200 RX4 yX4_unitsBefore wsX4_unitsBefore) := goodIn_app (goodIn_of _ (by decide +kernel)) ggX6_signBegin_X4_unitsBefore
theorem dX6_signBegin_0 : decode cX6_signBegin 0 = .ok (.iload_n 3, 1) := by decide +kernel
theorem dX6_signBegin_1 : decode cX6_signBegin 1 = .ok (.ifCond .ne 7, 3) := by decide +kernel
theorem dX6_signBegin_4 : decode cX6_signBegin 4 = .ok (.sipush (-1005), 3) := by decide +kernel
theorem dX6_signBegin_7 : decode cX6_signBegin 7 = .ok (.ireturn, 1) := by decide +kernel
theorem dX6_signBegin_8 : decode cX6_signBegin 8 = .ok (.aload_n 0, 1) := by decide +kernel
theorem dX6_signBegin_9 : decode cX6_signBegin 9 = .ok (.getfield 10, 3) := by decide +kernel
theorem dX6_signBegin_12 : decode cX6_signBegin 12 = .ok (.iload_n 1, 1) := by decide +kernel
theorem dX6_signBegin_13 : decode cX6_signBegin 13 = .ok (.iload_n 3, 1) := by decide +kernel
theorem dX6_signBegin_14 : decode cX6_signBegin 14 = .ok (.invokevirtual 149, 3) := by decide +kernel
theorem dX6_signBegin_17 : decode cX6_signBegin 17 = .ok (.aload_n 0, 1) := by decide +kernel
theorem dX6_signBegin_18 : decode cX6_signBegin 18 = .ok (.getfield 10, 3) := by decide +kernel
theorem dX6_signBegin_21 : decode cX6_signBegin 21 = .ok (.iload_n 1, 1) := by decide +kernel
theorem dX6_signBegin_22 : decode cX6_signBegin 22 = .ok (.iload_n 2, 1) := by decide +kernel
theorem dX6_signBegin_23 : decode cX6_signBegin 23 = .ok (.invokevirtual 200, 3) := by decide +kernel
theorem dX6_signBegin_26 : decode cX6_signBegin 26 = .ok (.iload_n 3, 1) := by decide +kernel
theorem dX6_signBegin_27 : decode cX6_signBegin 27 = .ok (.imul, 1) := by decide +kernel
theorem dX6_signBegin_28 : decode cX6_signBegin 28 = .ok (.iadd, 1) := by decide +kernel
theorem dX6_signBegin_29 : decode cX6_signBegin 29 = .ok (.ireturn, 1) := by decide +kernel
set_option maxRecDepth 20000 in
theorem ggX6_signAt_X4_sizeNow : GoodIn wsX6_signAt wsX4_sizeNow := goodIn_r _ [6, 7, 8, 9, 10, 11, 12, 13, 5, 14, 15, 16, 17, 18, 19, 20, 21, 22, 23, 24, 25, 26, 27, 28, 29, 30, 31, 32, 33, 34, 35, 36, 37, 38, 39, 40, 41, 42, 43, 44, 45, 46, 47, 48, 49, 50, 51, 52, 53, 54, 55, 56, 57, 58, 59, 60, 61, 62, 63, 64, 65, 66, 67, 68, 69, 70, 71, 72, 73, 74, 75, 76, 77, 78, 79, 80, 81, 82, 83, 84, 85, 86, 87, 88, 132, 133, 134, 135, 136, 137, 138, 139, 140, 141, 142, 143, 144, 145, 146, 147, 148] (by decide +kernel) (by decide +kernel)
set_option maxRecDepth 20000 in
theorem gX6_signAt_X4_sizeNow : GoodIn wsX6_signAt (wsV RX6 140 RX4 yX4_sizeNow wsX4_sizeNow) := goodIn_app (goodIn_of _ (by decide +kernel)) ggX6_signAt_X4_sizeNow
set_option maxRecDepth 20000 in
theorem ggX6_signAt_X4_rowBegin : GoodIn wsX6_signAt wsX4_rowBegin := goodIn_r _ [92, 72, 93, 94, 95, 5, 96, 77, 78, 79, 80, 81, 82, 83, 84, 132, 133, 134, 135, 136, 137, 138, 139, 140, 141] (by decide +kernel) (by decide +kernel)
set_option maxRecDepth 20000 in
theorem gX6_signAt_X4_rowBegin : GoodIn wsX6_signAt (wsV RX6 187 RX4 yX4_rowBegin wsX4_rowBegin) := goodIn_app (goodIn_of _ (by decide +kernel)) ggX6_signAt_X4_rowBegin
set_option maxRecDepth 20000 in
theorem ggX6_signAt_X4_indexAt : GoodIn wsX6_signAt wsX4_indexAt := goodIn_r _ [100, 10, 101, 102, 103, 5, 104, 8, 105, 106, 22, 107, 20, 21, 23, 85, 86, 87, 88, 72, 77, 78, 79, 80, 81, 82, 83, 84, 108, 109, 110, 111, 112, 113, 114, 115, 116, 117, 118, 119, 28, 29, 30, 31, 32, 33, 38, 39, 40, 41, 42, 120, 121, 45, 122, 123, 124, 125, 126, 43, 44, 46, 47, 48, 49, 50, 51, 52, 53, 54, 55, 56, 57, 58, 59, 60, 61, 62, 63, 64, 65, 66, 67, 24, 25, 26, 27, 34, 35, 36, 37, 132, 133, 134, 135, 136, 137, 138, 139, 140, 141, 142, 143, 144, 145, 146, 147, 148] (by decide +kernel) (by decide +kernel)
set_option maxRecDepth 20000 in
theorem gX6_signAt_X4_indexAt : GoodIn wsX6_signAt (wsV RX6 219 RX4 yX4_indexAt wsX4_indexAt) := goodIn_app (goodIn_of _ (by decide +kernel)) ggX6_signAt_X4_indexAt
theorem dX6_signAt_0 : decode cX6_signAt 0 = .ok (.iload_n 1, 1) := by decide +kernel
theorem dX6_signAt_1 : decode cX6_signAt 1 = .ok (.ifCond .lt 7, 3) := by decide +kernel
theorem dX6_signAt_4 : decode cX6_signAt 4 = .ok (.iload_n 2, 1) := by decide +kernel
theorem dX6_signAt_5 : decode cX6_signAt 5 = .ok (.ifCond .ge 7, 3) := by decide +kernel
theorem dX6_signAt_8 : decode cX6_signAt 8 = .ok (.sipush (-1002), 3) := by decide +kernel
theorem dX6_signAt_11 : decode cX6_signAt 11 = .ok (.ireturn, 1) := by decide +kernel
theorem dX6_signAt_12 : decode cX6_signAt 12 = .ok (.aload_n 0, 1) := by decide +kernel
theorem dX6_signAt_13 : decode cX6_signAt 13 = .ok (.getfield 10, 3) := by decide +kernel
theorem dX6_signAt_16 : decode cX6_signAt 16 = .ok (.invokevirtual 140, 3) := by decide +kernel
theorem dX6_signAt_19 : decode cX6_signAt 19 = .ok (.istore_n 3, 1) := by decide +kernel
theorem dX6_signAt_20 : decode cX6_signAt 20 = .ok (.iload_n 3, 1) := by decide +kernel
theorem dX6_signAt_21 : decode cX6_signAt 21 = .ok (.ifCond .ne 7, 3) := by decide +kernel
theorem dX6_signAt_24 : decode cX6_signAt 24 = .ok (.sipush (-1005), 3) := by decide +kernel
theorem dX6_signAt_27 : decode cX6_signAt 27 = .ok (.ireturn, 1) := by decide +kernel
theorem dX6_signAt_28 : decode cX6_signAt 28 = .ok (.iconst 0, 1) := by decide +kernel
theorem dX6_signAt_29 : decode cX6_signAt 29 = .ok (.istore 4, 2) := by decide +kernel
theorem dX6_signAt_31 : decode cX6_signAt 31 = .ok (.iload 4, 2) := by decide +kernel
theorem dX6_signAt_33 : decode cX6_signAt 33 = .ok (.aload_n 0, 1) := by decide +kernel
theorem dX6_signAt_34 : decode cX6_signAt 34 = .ok (.getfield 10, 3) := by decide +kernel
theorem dX6_signAt_37 : decode cX6_signAt 37 = .ok (.getfield 102, 3) := by decide +kernel
theorem dX6_signAt_40 : decode cX6_signAt 40 = .ok (.getfield 106, 3) := by decide +kernel
theorem dX6_signAt_43 : decode cX6_signAt 43 = .ok (.if_icmp .ge 65, 3) := by decide +kernel
theorem dX6_signAt_46 : decode cX6_signAt 46 = .ok (.aload_n 0, 1) := by decide +kernel
theorem dX6_signAt_47 : decode cX6_signAt 47 = .ok (.getfield 10, 3) := by decide +kernel
theorem dX6_signAt_50 : decode cX6_signAt 50 = .ok (.iload 4, 2) := by decide +kernel
theorem dX6_signAt_52 : decode cX6_signAt 52 = .ok (.iload_n 3, 1) := by decide +kernel
theorem dX6_signAt_53 : decode cX6_signAt 53 = .ok (.invokevirtual 187, 3) := by decide +kernel
theorem dX6_signAt_56 : decode cX6_signAt 56 = .ok (.istore 5, 2) := by decide +kernel
theorem dX6_signAt_58 : decode cX6_signAt 58 = .ok (.iload_n 2, 1) := by decide +kernel
theorem dX6_signAt_59 : decode cX6_signAt 59 = .ok (.iload 5, 2) := by decide +kernel
theorem dX6_signAt_61 : decode cX6_signAt 61 = .ok (.if_icmp .lt 41, 3) := by decide +kernel
theorem dX6_signAt_64 : decode cX6_signAt 64 = .ok (.iload_n 2, 1) := by decide +kernel
theorem dX6_signAt_65 : decode cX6_signAt 65 = .ok (.iload 5, 2) := by decide +kernel
theorem dX6_signAt_67 : decode cX6_signAt 67 = .ok (.bipush 12, 2) := by decide +kernel
theorem dX6_signAt_69 : decode cX6_signAt 69 = .ok (.iload_n 3, 1) := by decide +kernel
theorem dX6_signAt_70 : decode cX6_signAt 70 = .ok (.imul, 1) := by decide +kernel
theorem dX6_signAt_71 : decode cX6_signAt 71 = .ok (.iadd, 1) := by decide +kernel
theorem dX6_signAt_72 : decode cX6_signAt 72 = .ok (.if_icmp .ge 30, 3) := by decide +kernel
theorem dX6_signAt_75 : decode cX6_signAt 75 = .ok (.aload_n 0, 1) := by decide +kernel
theorem dX6_signAt_76 : decode cX6_signAt 76 = .ok (.getfield 10, 3) := by decide +kernel
theorem dX6_signAt_79 : decode cX6_signAt 79 = .ok (.iload 4, 2) := by decide +kernel
theorem dX6_signAt_81 : decode cX6_signAt 81 = .ok (.iload_n 1, 1) := by decide +kernel
theorem dX6_signAt_82 : decode cX6_signAt 82 = .ok (.iload_n 3, 1) := by decide +kernel
theorem dX6_signAt_83 : decode cX6_signAt 83 = .ok (.invokevirtual 219, 3) := by decide +kernel
theorem dX6_signAt_86 : decode cX6_signAt 86 = .ok (.istore 6, 2) := by decide +kernel
theorem dX6_signAt_88 : decode cX6_signAt 88 = .ok (.iload 6, 2) := by decide +kernel
theorem dX6_signAt_90 : decode cX6_signAt 90 = .ok (.ifCond .lt 12, 3) := by decide +kernel
theorem dX6_signAt_93 : decode cX6_signAt 93 = .ok (.bipush 100, 2) := by decide +kernel
theorem dX6_signAt_95 : decode cX6_signAt 95 = .ok (.iload 4, 2) := by decide +kernel
theorem dX6_signAt_97 : decode cX6_signAt 97 = .ok (.imul, 1) := by decide +kernel
theorem dX6_signAt_98 : decode cX6_signAt 98 = .ok (.iload 6, 2) := by decide +kernel
theorem dX6_signAt_100 : decode cX6_signAt 100 = .ok (.iadd, 1) := by decide +kernel
theorem dX6_signAt_101 : decode cX6_signAt 101 = .ok (.ireturn, 1) := by decide +kernel
theorem dX6_signAt_102 : decode cX6_signAt 102 = .ok (.iinc 4 1, 3) := by decide +kernel
theorem dX6_signAt_105 : decode cX6_signAt 105 = .ok (.goto (-74), 3) := by decide +kernel
theorem dX6_signAt_108 : decode cX6_signAt 108 = .ok (.sipush (-1005), 3) := by decide +kernel
theorem dX6_signAt_111 : decode cX6_signAt 111 = .ok (.ireturn, 1) := by decide +kernel
set_option maxRecDepth 20000 in
theorem ggX6_size_X4_sizeNow : GoodIn wsX6_size wsX4_sizeNow := goodIn_r _ [6, 7, 8, 9, 10, 11, 12, 13, 5, 14, 15, 16, 17, 18, 19, 20, 21, 22, 23, 24, 25, 26, 27, 28, 29, 30, 31, 32, 33, 34, 35, 36, 37, 38, 39, 40, 41, 42, 43, 44, 45, 46, 47, 48, 49, 50, 51, 52, 53, 54, 55, 56, 57, 58, 59, 60, 61, 62, 63, 64, 65, 66, 67, 68, 69, 70, 71, 72, 73, 74, 75, 76, 77, 78, 79, 80, 81, 82, 83, 84, 85, 86, 87, 88, 94, 95, 96, 97, 98, 99, 100, 101, 102, 103, 104, 105, 106, 107, 108, 109, 110] (by decide +kernel) (by decide +kernel)
set_option maxRecDepth 20000 in
theorem gX6_size_X4_sizeNow : GoodIn wsX6_size (wsV RX6 140 RX4 yX4_sizeNow wsX4_sizeNow) := goodIn_app (goodIn_of _ (by decide +kernel)) ggX6_size_X4_sizeNow
theorem dX6_size_0 : decode cX6_size 0 = .ok (.aload_n 0, 1) := by decide +kernel
theorem dX6_size_1 : decode cX6_size 1 = .ok (.getfield 10, 3) := by decide +kernel
theorem dX6_size_4 : decode cX6_size 4 = .ok (.invokevirtual 140, 3) := by decide +kernel
theorem dX6_size_7 : decode cX6_size 7 = .ok (.ireturn, 1) := by decide +kernel
set_option maxRecDepth 20000 in
theorem ggX6_sizeBy_X6_isPlate : GoodIn wsX6_sizeBy wsX6_isPlate := goodIn_r _ [5] (by decide +kernel) (by decide +kernel)
set_option maxRecDepth 20000 in
theorem gX6_sizeBy_X6_isPlate : GoodIn wsX6_sizeBy (va_wsS RX6 37 yX6_isPlate wsX6_isPlate) := goodIn_app (goodIn_of _ (by decide +kernel)) ggX6_sizeBy_X6_isPlate
set_option maxRecDepth 20000 in
theorem ggX6_sizeBy_X4_mostUnits : GoodIn wsX6_sizeBy wsX4_mostUnits := goodIn_r _ [10, 11, 12, 13, 14, 15, 16, 17, 18, 9, 19, 20, 21, 22, 23, 24, 25, 26, 27, 28, 29, 30, 31, 32, 33, 34, 35, 36, 37, 38, 39, 40, 41, 42, 43, 44, 45, 46, 47, 48, 49, 50, 51, 52, 53, 54, 55, 56, 57, 58, 59, 86, 87, 88, 89, 90, 91, 92, 93, 94, 95, 96, 97, 98, 99, 100, 101, 102] (by decide +kernel) (by decide +kernel)
set_option maxRecDepth 20000 in
theorem gX6_sizeBy_X4_mostUnits : GoodIn wsX6_sizeBy (wsV RX6 222 RX4 yX4_mostUnits wsX4_mostUnits) := goodIn_app (goodIn_of _ (by decide +kernel)) ggX6_sizeBy_X4_mostUnits
set_option maxRecDepth 20000 in
theorem ggX6_sizeBy_X4_greatestSize : GoodIn wsX6_sizeBy wsX4_greatestSize := goodIn_r _ [63, 64, 65, 66, 67, 9, 68, 69, 70, 71, 72, 73, 74, 75, 76, 77, 78, 79, 80, 86, 87, 88, 89, 90, 91, 92, 93, 94, 95] (by decide +kernel) (by decide +kernel)
set_option maxRecDepth 20000 in
theorem gX6_sizeBy_X4_greatestSize : GoodIn wsX6_sizeBy (wsV RX6 225 RX4 yX4_greatestSize wsX4_greatestSize) := goodIn_app (goodIn_of _ (by decide +kernel)) ggX6_sizeBy_X4_greatestSize
theorem dX6_sizeBy_0 : decode cX6_sizeBy 0 = .ok (.iload_n 1, 1) := by decide +kernel
theorem dX6_sizeBy_1 : decode cX6_sizeBy 1 = .ok (.iload_n 2, 1) := by decide +kernel
theorem dX6_sizeBy_2 : decode cX6_sizeBy 2 = .ok (.invokestatic 37, 3) := by decide +kernel
theorem dX6_sizeBy_5 : decode cX6_sizeBy 5 = .ok (.ifCond .ne 7, 3) := by decide +kernel
theorem dX6_sizeBy_8 : decode cX6_sizeBy 8 = .ok (.sipush (-1002), 3) := by decide +kernel
theorem dX6_sizeBy_11 : decode cX6_sizeBy 11 = .ok (.ireturn, 1) := by decide +kernel
theorem dX6_sizeBy_12 : decode cX6_sizeBy 12 = .ok (.aload_n 0, 1) := by decide +kernel
theorem dX6_sizeBy_13 : decode cX6_sizeBy 13 = .ok (.getfield 10, 3) := by decide +kernel
theorem dX6_sizeBy_16 : decode cX6_sizeBy 16 = .ok (.iload_n 1, 1) := by decide +kernel
theorem dX6_sizeBy_17 : decode cX6_sizeBy 17 = .ok (.iload_n 2, 1) := by decide +kernel
theorem dX6_sizeBy_18 : decode cX6_sizeBy 18 = .ok (.aload_n 0, 1) := by decide +kernel
theorem dX6_sizeBy_19 : decode cX6_sizeBy 19 = .ok (.getfield 10, 3) := by decide +kernel
theorem dX6_sizeBy_22 : decode cX6_sizeBy 22 = .ok (.getfield 102, 3) := by decide +kernel
theorem dX6_sizeBy_25 : decode cX6_sizeBy 25 = .ok (.getfield 106, 3) := by decide +kernel
theorem dX6_sizeBy_28 : decode cX6_sizeBy 28 = .ok (.aload_n 0, 1) := by decide +kernel
theorem dX6_sizeBy_29 : decode cX6_sizeBy 29 = .ok (.getfield 10, 3) := by decide +kernel
theorem dX6_sizeBy_32 : decode cX6_sizeBy 32 = .ok (.iconst (-1), 1) := by decide +kernel
theorem dX6_sizeBy_33 : decode cX6_sizeBy 33 = .ok (.invokevirtual 222, 3) := by decide +kernel
theorem dX6_sizeBy_36 : decode cX6_sizeBy 36 = .ok (.invokevirtual 225, 3) := by decide +kernel
theorem dX6_sizeBy_39 : decode cX6_sizeBy 39 = .ok (.ireturn, 1) := by decide +kernel
set_option maxRecDepth 20000 in
theorem ggX6_sizeWithout_X1_isTaken : GoodIn wsX6_sizeWithout wsX1_isTaken := goodIn_r _ [6, 7, 97, 98, 99] (by decide +kernel) (by decide +kernel)
set_option maxRecDepth 20000 in
theorem gX6_sizeWithout_X1_isTaken : GoodIn wsX6_sizeWithout (wsV RX6 122 RX1 yX1_isTaken wsX1_isTaken) := goodIn_app (goodIn_of _ (by decide +kernel)) ggX6_sizeWithout_X1_isTaken
set_option maxRecDepth 20000 in
theorem ggX6_sizeWithout_X4_mostUnits : GoodIn wsX6_sizeWithout wsX4_mostUnits := goodIn_r _ [12, 13, 14, 15, 16, 17, 18, 19, 20, 11, 21, 22, 23, 24, 5, 25, 26, 27, 28, 29, 30, 31, 32, 33, 34, 35, 36, 37, 38, 39, 40, 41, 42, 43, 44, 45, 46, 47, 48, 49, 50, 51, 52, 53, 54, 55, 56, 57, 58, 59, 60, 87, 88, 89, 90, 91, 92, 93, 94, 95, 96, 97, 98, 99, 100, 101, 102, 103] (by decide +kernel) (by decide +kernel)
set_option maxRecDepth 20000 in
theorem gX6_sizeWithout_X4_mostUnits : GoodIn wsX6_sizeWithout (wsV RX6 222 RX4 yX4_mostUnits wsX4_mostUnits) := goodIn_app (goodIn_of _ (by decide +kernel)) ggX6_sizeWithout_X4_mostUnits
set_option maxRecDepth 20000 in
theorem ggX6_sizeWithout_X4_greatestSize : GoodIn wsX6_sizeWithout wsX4_greatestSize := goodIn_r _ [64, 65, 66, 67, 68, 11, 69, 70, 71, 72, 73, 74, 75, 76, 77, 78, 79, 80, 81, 87, 88, 89, 90, 91, 92, 93, 94, 95, 96] (by decide +kernel) (by decide +kernel)
set_option maxRecDepth 20000 in
theorem gX6_sizeWithout_X4_greatestSize : GoodIn wsX6_sizeWithout (wsV RX6 225 RX4 yX4_greatestSize wsX4_greatestSize) := goodIn_app (goodIn_of _ (by decide +kernel)) ggX6_sizeWithout_X4_greatestSize
theorem dX6_sizeWithout_0 : decode cX6_sizeWithout 0 = .ok (.aload_n 0, 1) := by decide +kernel
theorem dX6_sizeWithout_1 : decode cX6_sizeWithout 1 = .ok (.getfield 10, 3) := by decide +kernel
theorem dX6_sizeWithout_4 : decode cX6_sizeWithout 4 = .ok (.getfield 102, 3) := by decide +kernel
theorem dX6_sizeWithout_7 : decode cX6_sizeWithout 7 = .ok (.iload_n 1, 1) := by decide +kernel
theorem dX6_sizeWithout_8 : decode cX6_sizeWithout 8 = .ok (.invokevirtual 122, 3) := by decide +kernel
theorem dX6_sizeWithout_11 : decode cX6_sizeWithout 11 = .ok (.ifCond .ne 7, 3) := by decide +kernel
theorem dX6_sizeWithout_14 : decode cX6_sizeWithout 14 = .ok (.sipush (-1001), 3) := by decide +kernel
theorem dX6_sizeWithout_17 : decode cX6_sizeWithout 17 = .ok (.ireturn, 1) := by decide +kernel
theorem dX6_sizeWithout_18 : decode cX6_sizeWithout 18 = .ok (.aload_n 0, 1) := by decide +kernel
theorem dX6_sizeWithout_19 : decode cX6_sizeWithout 19 = .ok (.getfield 10, 3) := by decide +kernel
theorem dX6_sizeWithout_22 : decode cX6_sizeWithout 22 = .ok (.aload_n 0, 1) := by decide +kernel
theorem dX6_sizeWithout_23 : decode cX6_sizeWithout 23 = .ok (.getfield 10, 3) := by decide +kernel
theorem dX6_sizeWithout_26 : decode cX6_sizeWithout 26 = .ok (.getfield 229, 3) := by decide +kernel
theorem dX6_sizeWithout_29 : decode cX6_sizeWithout 29 = .ok (.aload_n 0, 1) := by decide +kernel
theorem dX6_sizeWithout_30 : decode cX6_sizeWithout 30 = .ok (.getfield 10, 3) := by decide +kernel
theorem dX6_sizeWithout_33 : decode cX6_sizeWithout 33 = .ok (.getfield 231, 3) := by decide +kernel
theorem dX6_sizeWithout_36 : decode cX6_sizeWithout 36 = .ok (.aload_n 0, 1) := by decide +kernel
theorem dX6_sizeWithout_37 : decode cX6_sizeWithout 37 = .ok (.getfield 10, 3) := by decide +kernel
theorem dX6_sizeWithout_40 : decode cX6_sizeWithout 40 = .ok (.getfield 102, 3) := by decide +kernel
theorem dX6_sizeWithout_43 : decode cX6_sizeWithout 43 = .ok (.getfield 106, 3) := by decide +kernel
theorem dX6_sizeWithout_46 : decode cX6_sizeWithout 46 = .ok (.iconst 1, 1) := by decide +kernel
theorem dX6_sizeWithout_47 : decode cX6_sizeWithout 47 = .ok (.isub, 1) := by decide +kernel
theorem dX6_sizeWithout_48 : decode cX6_sizeWithout 48 = .ok (.aload_n 0, 1) := by decide +kernel
theorem dX6_sizeWithout_49 : decode cX6_sizeWithout 49 = .ok (.getfield 10, 3) := by decide +kernel
theorem dX6_sizeWithout_52 : decode cX6_sizeWithout 52 = .ok (.iload_n 1, 1) := by decide +kernel
theorem dX6_sizeWithout_53 : decode cX6_sizeWithout 53 = .ok (.invokevirtual 222, 3) := by decide +kernel
theorem dX6_sizeWithout_56 : decode cX6_sizeWithout 56 = .ok (.invokevirtual 225, 3) := by decide +kernel
theorem dX6_sizeWithout_59 : decode cX6_sizeWithout 59 = .ok (.ireturn, 1) := by decide +kernel
set_option maxRecDepth 20000 in
theorem ggX6_leastWidth_X4_mostUnits : GoodIn wsX6_leastWidth wsX4_mostUnits := goodIn_r _ [10, 11, 12, 3, 4, 5, 13, 14, 15, 9, 16, 17, 18, 19, 20, 21, 22, 23, 24, 25, 26, 27, 28, 29, 30, 31, 32, 33, 34, 35, 36, 37, 38, 39, 40, 41, 42, 43, 44, 45, 46, 47, 48, 49, 50, 51, 52, 53, 54, 55, 56, 62, 63, 64, 65, 66, 67, 68, 69, 70, 71, 72, 73, 74, 75, 76, 77, 78] (by decide +kernel) (by decide +kernel)
set_option maxRecDepth 20000 in
theorem gX6_leastWidth_X4_mostUnits : GoodIn wsX6_leastWidth (wsV RX6 222 RX4 yX4_mostUnits wsX4_mostUnits) := goodIn_app (goodIn_of _ (by decide +kernel)) ggX6_leastWidth_X4_mostUnits
theorem dX6_leastWidth_0 : decode cX6_leastWidth 0 = .ok (.iload_n 1, 1) := by decide +kernel
theorem dX6_leastWidth_1 : decode cX6_leastWidth 1 = .ok (.iconst 1, 1) := by decide +kernel
theorem dX6_leastWidth_2 : decode cX6_leastWidth 2 = .ok (.if_icmp .lt 9, 3) := by decide +kernel
theorem dX6_leastWidth_5 : decode cX6_leastWidth 5 = .ok (.iload_n 1, 1) := by decide +kernel
theorem dX6_leastWidth_6 : decode cX6_leastWidth 6 = .ok (.bipush 40, 2) := by decide +kernel
theorem dX6_leastWidth_8 : decode cX6_leastWidth 8 = .ok (.if_icmp .le 7, 3) := by decide +kernel
theorem dX6_leastWidth_11 : decode cX6_leastWidth 11 = .ok (.sipush (-1002), 3) := by decide +kernel
theorem dX6_leastWidth_14 : decode cX6_leastWidth 14 = .ok (.ireturn, 1) := by decide +kernel
theorem dX6_leastWidth_15 : decode cX6_leastWidth 15 = .ok (.aload_n 0, 1) := by decide +kernel
theorem dX6_leastWidth_16 : decode cX6_leastWidth 16 = .ok (.getfield 10, 3) := by decide +kernel
theorem dX6_leastWidth_19 : decode cX6_leastWidth 19 = .ok (.getfield 102, 3) := by decide +kernel
theorem dX6_leastWidth_22 : decode cX6_leastWidth 22 = .ok (.getfield 106, 3) := by decide +kernel
theorem dX6_leastWidth_25 : decode cX6_leastWidth 25 = .ok (.ifCond .ne 7, 3) := by decide +kernel
theorem dX6_leastWidth_28 : decode cX6_leastWidth 28 = .ok (.sipush (-1005), 3) := by decide +kernel
theorem dX6_leastWidth_31 : decode cX6_leastWidth 31 = .ok (.ireturn, 1) := by decide +kernel
theorem dX6_leastWidth_32 : decode cX6_leastWidth 32 = .ok (.iconst 2, 1) := by decide +kernel
theorem dX6_leastWidth_33 : decode cX6_leastWidth 33 = .ok (.aload_n 0, 1) := by decide +kernel
theorem dX6_leastWidth_34 : decode cX6_leastWidth 34 = .ok (.getfield 10, 3) := by decide +kernel
theorem dX6_leastWidth_37 : decode cX6_leastWidth 37 = .ok (.getfield 53, 3) := by decide +kernel
theorem dX6_leastWidth_40 : decode cX6_leastWidth 40 = .ok (.imul, 1) := by decide +kernel
theorem dX6_leastWidth_41 : decode cX6_leastWidth 41 = .ok (.aload_n 0, 1) := by decide +kernel
theorem dX6_leastWidth_42 : decode cX6_leastWidth 42 = .ok (.getfield 10, 3) := by decide +kernel
theorem dX6_leastWidth_45 : decode cX6_leastWidth 45 = .ok (.getfield 57, 3) := by decide +kernel
theorem dX6_leastWidth_48 : decode cX6_leastWidth 48 = .ok (.aload_n 0, 1) := by decide +kernel
theorem dX6_leastWidth_49 : decode cX6_leastWidth 49 = .ok (.getfield 10, 3) := by decide +kernel
theorem dX6_leastWidth_52 : decode cX6_leastWidth 52 = .ok (.iconst (-1), 1) := by decide +kernel
theorem dX6_leastWidth_53 : decode cX6_leastWidth 53 = .ok (.invokevirtual 222, 3) := by decide +kernel
theorem dX6_leastWidth_56 : decode cX6_leastWidth 56 = .ok (.imul, 1) := by decide +kernel
theorem dX6_leastWidth_57 : decode cX6_leastWidth 57 = .ok (.iload_n 1, 1) := by decide +kernel
theorem dX6_leastWidth_58 : decode cX6_leastWidth 58 = .ok (.imul, 1) := by decide +kernel
theorem dX6_leastWidth_59 : decode cX6_leastWidth 59 = .ok (.iadd, 1) := by decide +kernel
theorem dX6_leastWidth_60 : decode cX6_leastWidth 60 = .ok (.istore_n 2, 1) := by decide +kernel
theorem dX6_leastWidth_61 : decode cX6_leastWidth 61 = .ok (.sipush 300, 3) := by decide +kernel
theorem dX6_leastWidth_64 : decode cX6_leastWidth 64 = .ok (.iload_n 2, 1) := by decide +kernel
theorem dX6_leastWidth_65 : decode cX6_leastWidth 65 = .ok (.invokestatic 234, 3) := by decide +kernel
theorem dX6_leastWidth_68 : decode cX6_leastWidth 68 = .ok (.ireturn, 1) := by decide +kernel
set_option maxRecDepth 20000 in
theorem ggX6_longest_X4_mostUnits : GoodIn wsX6_longest wsX4_mostUnits := goodIn_r _ [6, 7, 8, 9, 10, 11, 12, 13, 14, 5, 15, 16, 17, 18, 19, 20, 21, 22, 23, 24, 25, 26, 27, 28, 29, 30, 31, 32, 33, 34, 35, 36, 37, 38, 39, 40, 41, 42, 43, 44, 45, 46, 47, 48, 49, 50, 51, 52, 53, 54, 55, 62, 63, 64, 65, 66, 67, 68, 69, 70, 71, 72, 73, 74, 75, 76, 77, 78] (by decide +kernel) (by decide +kernel)
set_option maxRecDepth 20000 in
theorem gX6_longest_X4_mostUnits : GoodIn wsX6_longest (wsV RX6 222 RX4 yX4_mostUnits wsX4_mostUnits) := goodIn_app (goodIn_of _ (by decide +kernel)) ggX6_longest_X4_mostUnits
set_option maxRecDepth 20000 in
theorem ggX6_longest_X4_unitsOf : GoodIn wsX6_longest wsX4_unitsOf := goodIn_r _ [15, 7, 16, 17, 18, 19, 20, 21, 22, 23, 24, 5, 25, 26, 27, 28, 29, 30, 31, 32, 33, 34, 35, 36, 37, 38, 39, 8, 9, 10, 11, 40, 41, 42, 43, 44, 45, 46, 47, 48, 49, 50, 51, 52, 53, 54, 55, 62, 63, 64, 65, 66, 67, 68, 69, 70, 71, 72, 73, 74, 75, 76, 77, 78] (by decide +kernel) (by decide +kernel)
set_option maxRecDepth 20000 in
theorem gX6_longest_X4_unitsOf : GoodIn wsX6_longest (wsV RX6 171 RX4 yX4_unitsOf wsX4_unitsOf) := goodIn_app (goodIn_of _ (by decide +kernel)) ggX6_longest_X4_unitsOf
theorem dX6_longest_0 : decode cX6_longest 0 = .ok (.aload_n 0, 1) := by decide +kernel
theorem dX6_longest_1 : decode cX6_longest 1 = .ok (.getfield 10, 3) := by decide +kernel
theorem dX6_longest_4 : decode cX6_longest 4 = .ok (.iconst (-1), 1) := by decide +kernel
theorem dX6_longest_5 : decode cX6_longest 5 = .ok (.invokevirtual 222, 3) := by decide +kernel
theorem dX6_longest_8 : decode cX6_longest 8 = .ok (.istore_n 1, 1) := by decide +kernel
theorem dX6_longest_9 : decode cX6_longest 9 = .ok (.iconst 0, 1) := by decide +kernel
theorem dX6_longest_10 : decode cX6_longest 10 = .ok (.istore_n 2, 1) := by decide +kernel
theorem dX6_longest_11 : decode cX6_longest 11 = .ok (.iload_n 2, 1) := by decide +kernel
theorem dX6_longest_12 : decode cX6_longest 12 = .ok (.aload_n 0, 1) := by decide +kernel
theorem dX6_longest_13 : decode cX6_longest 13 = .ok (.getfield 10, 3) := by decide +kernel
theorem dX6_longest_16 : decode cX6_longest 16 = .ok (.getfield 102, 3) := by decide +kernel
theorem dX6_longest_19 : decode cX6_longest 19 = .ok (.getfield 106, 3) := by decide +kernel
theorem dX6_longest_22 : decode cX6_longest 22 = .ok (.if_icmp .ge 23, 3) := by decide +kernel
theorem dX6_longest_25 : decode cX6_longest 25 = .ok (.aload_n 0, 1) := by decide +kernel
theorem dX6_longest_26 : decode cX6_longest 26 = .ok (.getfield 10, 3) := by decide +kernel
theorem dX6_longest_29 : decode cX6_longest 29 = .ok (.iload_n 2, 1) := by decide +kernel
theorem dX6_longest_30 : decode cX6_longest 30 = .ok (.invokevirtual 171, 3) := by decide +kernel
theorem dX6_longest_33 : decode cX6_longest 33 = .ok (.iload_n 1, 1) := by decide +kernel
theorem dX6_longest_34 : decode cX6_longest 34 = .ok (.if_icmp .ne 5, 3) := by decide +kernel
theorem dX6_longest_37 : decode cX6_longest 37 = .ok (.iload_n 2, 1) := by decide +kernel
theorem dX6_longest_38 : decode cX6_longest 38 = .ok (.ireturn, 1) := by decide +kernel
theorem dX6_longest_39 : decode cX6_longest 39 = .ok (.iinc 2 1, 3) := by decide +kernel
theorem dX6_longest_42 : decode cX6_longest 42 = .ok (.goto (-31), 3) := by decide +kernel
theorem dX6_longest_45 : decode cX6_longest 45 = .ok (.sipush (-1005), 3) := by decide +kernel
theorem dX6_longest_48 : decode cX6_longest 48 = .ok (.ireturn, 1) := by decide +kernel
set_option maxRecDepth 20000 in
theorem ggX6_adjustment_X3_isKnown : GoodIn wsX6_adjustment wsX3_isKnown := goodIn_r _ [5, 6, 7, 4, 8, 9, 10, 11] (by decide +kernel) (by decide +kernel)
set_option maxRecDepth 20000 in
theorem gX6_adjustment_X3_isKnown : GoodIn wsX6_adjustment (va_wsS RX6 60 yX3_isKnown wsX3_isKnown) := goodIn_app (goodIn_of _ (by decide +kernel)) ggX6_adjustment_X3_isKnown
set_option maxRecDepth 20000 in
theorem ggX6_adjustment_X4_adjustmentOf : GoodIn wsX6_adjustment wsX4_adjustmentOf := goodIn_r _ [16, 17, 18, 19, 20, 21, 22, 23, 24, 25, 26, 27, 28, 29, 30, 36, 37, 38, 39, 40, 41, 42, 43, 44, 45, 46, 47, 48, 49] (by decide +kernel) (by decide +kernel)
set_option maxRecDepth 20000 in
theorem gX6_adjustment_X4_adjustmentOf : GoodIn wsX6_adjustment (wsV RX6 70 RX4 yX4_adjustmentOf wsX4_adjustmentOf) := goodIn_app (goodIn_of _ (by decide +kernel)) ggX6_adjustment_X4_adjustmentOf
theorem dX6_adjustment_0 : decode cX6_adjustment 0 = .ok (.iload_n 1, 1) := by decide +kernel
theorem dX6_adjustment_1 : decode cX6_adjustment 1 = .ok (.invokestatic 60, 3) := by decide +kernel
theorem dX6_adjustment_4 : decode cX6_adjustment 4 = .ok (.ifCond .eq 10, 3) := by decide +kernel
theorem dX6_adjustment_7 : decode cX6_adjustment 7 = .ok (.iload_n 2, 1) := by decide +kernel
theorem dX6_adjustment_8 : decode cX6_adjustment 8 = .ok (.invokestatic 60, 3) := by decide +kernel
theorem dX6_adjustment_11 : decode cX6_adjustment 11 = .ok (.ifCond .ne 7, 3) := by decide +kernel
theorem dX6_adjustment_14 : decode cX6_adjustment 14 = .ok (.sipush (-1001), 3) := by decide +kernel
theorem dX6_adjustment_17 : decode cX6_adjustment 17 = .ok (.ireturn, 1) := by decide +kernel
theorem dX6_adjustment_18 : decode cX6_adjustment 18 = .ok (.aload_n 0, 1) := by decide +kernel
theorem dX6_adjustment_19 : decode cX6_adjustment 19 = .ok (.getfield 10, 3) := by decide +kernel
theorem dX6_adjustment_22 : decode cX6_adjustment 22 = .ok (.iload_n 1, 1) := by decide +kernel
theorem dX6_adjustment_23 : decode cX6_adjustment 23 = .ok (.iload_n 2, 1) := by decide +kernel
theorem dX6_adjustment_24 : decode cX6_adjustment 24 = .ok (.invokevirtual 70, 3) := by decide +kernel
theorem dX6_adjustment_27 : decode cX6_adjustment 27 = .ok (.ireturn, 1) := by decide +kernel
set_option maxRecDepth 20000 in
theorem ggX6_pair_X2_isPlace : GoodIn wsX6_pair wsX2_isPlace := goodIn_r _ [6, 7, 39, 40, 41, 42] (by decide +kernel) (by decide +kernel)
set_option maxRecDepth 20000 in
theorem gX6_pair_X2_isPlace : GoodIn wsX6_pair (wsV RX6 239 RX2 yX2_isPlace wsX2_isPlace) := goodIn_app (goodIn_of _ (by decide +kernel)) ggX6_pair_X2_isPlace
set_option maxRecDepth 20000 in
theorem ggX6_pair_X2_leftAt : GoodIn wsX6_pair wsX2_leftAt := goodIn_r _ [11, 12, 13, 3, 4, 5, 6, 7, 39, 40, 41, 42] (by decide +kernel) (by decide +kernel)
set_option maxRecDepth 20000 in
theorem gX6_pair_X2_leftAt : GoodIn wsX6_pair (wsV RX6 242 RX2 yX2_leftAt wsX2_leftAt) := goodIn_app (goodIn_of _ (by decide +kernel)) ggX6_pair_X2_leftAt
set_option maxRecDepth 20000 in
theorem ggX6_pair_X2_rightAt : GoodIn wsX6_pair wsX2_rightAt := goodIn_r _ [17, 18, 13, 3, 4, 5, 6, 7, 39, 40, 41, 42] (by decide +kernel) (by decide +kernel)
set_option maxRecDepth 20000 in
theorem gX6_pair_X2_rightAt : GoodIn wsX6_pair (wsV RX6 245 RX2 yX2_rightAt wsX2_rightAt) := goodIn_app (goodIn_of _ (by decide +kernel)) ggX6_pair_X2_rightAt
set_option maxRecDepth 20000 in
theorem ggX6_pair_X2_adjustmentAt : GoodIn wsX6_pair wsX2_adjustmentAt := goodIn_r _ [22, 7, 23, 39, 40, 41, 42] (by decide +kernel) (by decide +kernel)
set_option maxRecDepth 20000 in
theorem gX6_pair_X2_adjustmentAt : GoodIn wsX6_pair (wsV RX6 248 RX2 yX2_adjustmentAt wsX2_adjustmentAt) := goodIn_app (goodIn_of _ (by decide +kernel)) ggX6_pair_X2_adjustmentAt
theorem dX6_pair_0 : decode cX6_pair 0 = .ok (.iload_n 1, 1) := by decide +kernel
theorem dX6_pair_1 : decode cX6_pair 1 = .ok (.ifCond .lt 12, 3) := by decide +kernel
theorem dX6_pair_4 : decode cX6_pair 4 = .ok (.iload_n 2, 1) := by decide +kernel
theorem dX6_pair_5 : decode cX6_pair 5 = .ok (.ifCond .lt 8, 3) := by decide +kernel
theorem dX6_pair_8 : decode cX6_pair 8 = .ok (.iload_n 2, 1) := by decide +kernel
theorem dX6_pair_9 : decode cX6_pair 9 = .ok (.iconst 2, 1) := by decide +kernel
theorem dX6_pair_10 : decode cX6_pair 10 = .ok (.if_icmp .le 7, 3) := by decide +kernel
theorem dX6_pair_13 : decode cX6_pair 13 = .ok (.sipush (-1002), 3) := by decide +kernel
theorem dX6_pair_16 : decode cX6_pair 16 = .ok (.ireturn, 1) := by decide +kernel
theorem dX6_pair_17 : decode cX6_pair 17 = .ok (.aload_n 0, 1) := by decide +kernel
theorem dX6_pair_18 : decode cX6_pair 18 = .ok (.getfield 10, 3) := by decide +kernel
theorem dX6_pair_21 : decode cX6_pair 21 = .ok (.getfield 74, 3) := by decide +kernel
theorem dX6_pair_24 : decode cX6_pair 24 = .ok (.iload_n 1, 1) := by decide +kernel
theorem dX6_pair_25 : decode cX6_pair 25 = .ok (.invokevirtual 239, 3) := by decide +kernel
theorem dX6_pair_28 : decode cX6_pair 28 = .ok (.ifCond .ne 7, 3) := by decide +kernel
theorem dX6_pair_31 : decode cX6_pair 31 = .ok (.sipush (-1005), 3) := by decide +kernel
theorem dX6_pair_34 : decode cX6_pair 34 = .ok (.ireturn, 1) := by decide +kernel
theorem dX6_pair_35 : decode cX6_pair 35 = .ok (.iload_n 2, 1) := by decide +kernel
theorem dX6_pair_36 : decode cX6_pair 36 = .ok (.lookupswitch 52 #[(0, 28), (1, 40)], 28) := by decide +kernel
theorem dX6_pair_64 : decode cX6_pair 64 = .ok (.aload_n 0, 1) := by decide +kernel
theorem dX6_pair_65 : decode cX6_pair 65 = .ok (.getfield 10, 3) := by decide +kernel
theorem dX6_pair_68 : decode cX6_pair 68 = .ok (.getfield 74, 3) := by decide +kernel
theorem dX6_pair_71 : decode cX6_pair 71 = .ok (.iload_n 1, 1) := by decide +kernel
theorem dX6_pair_72 : decode cX6_pair 72 = .ok (.invokevirtual 242, 3) := by decide +kernel
theorem dX6_pair_75 : decode cX6_pair 75 = .ok (.ireturn, 1) := by decide +kernel
theorem dX6_pair_76 : decode cX6_pair 76 = .ok (.aload_n 0, 1) := by decide +kernel
theorem dX6_pair_77 : decode cX6_pair 77 = .ok (.getfield 10, 3) := by decide +kernel
theorem dX6_pair_80 : decode cX6_pair 80 = .ok (.getfield 74, 3) := by decide +kernel
theorem dX6_pair_83 : decode cX6_pair 83 = .ok (.iload_n 1, 1) := by decide +kernel
theorem dX6_pair_84 : decode cX6_pair 84 = .ok (.invokevirtual 245, 3) := by decide +kernel
theorem dX6_pair_87 : decode cX6_pair 87 = .ok (.ireturn, 1) := by decide +kernel
theorem dX6_pair_88 : decode cX6_pair 88 = .ok (.aload_n 0, 1) := by decide +kernel
theorem dX6_pair_89 : decode cX6_pair 89 = .ok (.getfield 10, 3) := by decide +kernel
theorem dX6_pair_92 : decode cX6_pair 92 = .ok (.getfield 74, 3) := by decide +kernel
theorem dX6_pair_95 : decode cX6_pair 95 = .ok (.iload_n 1, 1) := by decide +kernel
theorem dX6_pair_96 : decode cX6_pair 96 = .ok (.invokevirtual 248, 3) := by decide +kernel
theorem dX6_pair_99 : decode cX6_pair 99 = .ok (.ireturn, 1) := by decide +kernel
set_option maxRecDepth 20000 in
theorem ggX6_count_X4_engravedNames : GoodIn wsX6_count wsX4_engravedNames := goodIn_r _ [8, 9, 10, 11, 12, 13, 14, 15, 16, 34, 35, 36, 37, 38, 39, 40, 41, 42, 43] (by decide +kernel) (by decide +kernel)
set_option maxRecDepth 20000 in
theorem gX6_count_X4_engravedNames : GoodIn wsX6_count (wsV RX6 251 RX4 yX4_engravedNames wsX4_engravedNames) := goodIn_app (goodIn_of _ (by decide +kernel)) ggX6_count_X4_engravedNames
set_option maxRecDepth 20000 in
theorem ggX6_count_X4_rowsFor : GoodIn wsX6_count wsX4_rowsFor := goodIn_r _ [20, 21, 22, 23, 7, 24, 25, 26, 27, 28, 34, 35, 36, 37, 38, 39, 40, 41, 42, 43] (by decide +kernel) (by decide +kernel)
set_option maxRecDepth 20000 in
theorem gX6_count_X4_rowsFor : GoodIn wsX6_count (wsV RX6 254 RX4 yX4_rowsFor wsX4_rowsFor) := goodIn_app (goodIn_of _ (by decide +kernel)) ggX6_count_X4_rowsFor
theorem dX6_count_0 : decode cX6_count 0 = .ok (.iload_n 1, 1) := by decide +kernel
theorem dX6_count_1 : decode cX6_count 1 = .ok (.tableswitch 175 0 11 #[63, 71, 79, 87, 95, 106, 114, 132, 140, 148, 159, 167], 63) := by decide +kernel
theorem dX6_count_64 : decode cX6_count 64 = .ok (.aload_n 0, 1) := by decide +kernel
theorem dX6_count_65 : decode cX6_count 65 = .ok (.getfield 10, 3) := by decide +kernel
theorem dX6_count_68 : decode cX6_count 68 = .ok (.getfield 229, 3) := by decide +kernel
theorem dX6_count_71 : decode cX6_count 71 = .ok (.ireturn, 1) := by decide +kernel
theorem dX6_count_72 : decode cX6_count 72 = .ok (.aload_n 0, 1) := by decide +kernel
theorem dX6_count_73 : decode cX6_count 73 = .ok (.getfield 10, 3) := by decide +kernel
theorem dX6_count_76 : decode cX6_count 76 = .ok (.getfield 231, 3) := by decide +kernel
theorem dX6_count_79 : decode cX6_count 79 = .ok (.ireturn, 1) := by decide +kernel
theorem dX6_count_80 : decode cX6_count 80 = .ok (.aload_n 0, 1) := by decide +kernel
theorem dX6_count_81 : decode cX6_count 81 = .ok (.getfield 10, 3) := by decide +kernel
theorem dX6_count_84 : decode cX6_count 84 = .ok (.getfield 53, 3) := by decide +kernel
theorem dX6_count_87 : decode cX6_count 87 = .ok (.ireturn, 1) := by decide +kernel
theorem dX6_count_88 : decode cX6_count 88 = .ok (.aload_n 0, 1) := by decide +kernel
theorem dX6_count_89 : decode cX6_count 89 = .ok (.getfield 10, 3) := by decide +kernel
theorem dX6_count_92 : decode cX6_count 92 = .ok (.getfield 57, 3) := by decide +kernel
theorem dX6_count_95 : decode cX6_count 95 = .ok (.ireturn, 1) := by decide +kernel
theorem dX6_count_96 : decode cX6_count 96 = .ok (.aload_n 0, 1) := by decide +kernel
theorem dX6_count_97 : decode cX6_count 97 = .ok (.getfield 10, 3) := by decide +kernel
theorem dX6_count_100 : decode cX6_count 100 = .ok (.getfield 102, 3) := by decide +kernel
theorem dX6_count_103 : decode cX6_count 103 = .ok (.getfield 106, 3) := by decide +kernel
theorem dX6_count_106 : decode cX6_count 106 = .ok (.ireturn, 1) := by decide +kernel
theorem dX6_count_107 : decode cX6_count 107 = .ok (.aload_n 0, 1) := by decide +kernel
theorem dX6_count_108 : decode cX6_count 108 = .ok (.getfield 10, 3) := by decide +kernel
theorem dX6_count_111 : decode cX6_count 111 = .ok (.invokevirtual 251, 3) := by decide +kernel
theorem dX6_count_114 : decode cX6_count 114 = .ok (.ireturn, 1) := by decide +kernel
theorem dX6_count_115 : decode cX6_count 115 = .ok (.aload_n 0, 1) := by decide +kernel
theorem dX6_count_116 : decode cX6_count 116 = .ok (.getfield 10, 3) := by decide +kernel
theorem dX6_count_119 : decode cX6_count 119 = .ok (.aload_n 0, 1) := by decide +kernel
theorem dX6_count_120 : decode cX6_count 120 = .ok (.getfield 10, 3) := by decide +kernel
theorem dX6_count_123 : decode cX6_count 123 = .ok (.getfield 102, 3) := by decide +kernel
theorem dX6_count_126 : decode cX6_count 126 = .ok (.getfield 106, 3) := by decide +kernel
theorem dX6_count_129 : decode cX6_count 129 = .ok (.invokevirtual 254, 3) := by decide +kernel
theorem dX6_count_132 : decode cX6_count 132 = .ok (.ireturn, 1) := by decide +kernel
theorem dX6_count_133 : decode cX6_count 133 = .ok (.aload_n 0, 1) := by decide +kernel
theorem dX6_count_134 : decode cX6_count 134 = .ok (.getfield 10, 3) := by decide +kernel
theorem dX6_count_137 : decode cX6_count 137 = .ok (.getfield 257, 3) := by decide +kernel
theorem dX6_count_140 : decode cX6_count 140 = .ok (.ireturn, 1) := by decide +kernel
theorem dX6_count_141 : decode cX6_count 141 = .ok (.aload_n 0, 1) := by decide +kernel
theorem dX6_count_142 : decode cX6_count 142 = .ok (.getfield 10, 3) := by decide +kernel
theorem dX6_count_145 : decode cX6_count 145 = .ok (.getfield 260, 3) := by decide +kernel
theorem dX6_count_148 : decode cX6_count 148 = .ok (.ireturn, 1) := by decide +kernel
theorem dX6_count_149 : decode cX6_count 149 = .ok (.aload_n 0, 1) := by decide +kernel
theorem dX6_count_150 : decode cX6_count 150 = .ok (.getfield 10, 3) := by decide +kernel
theorem dX6_count_153 : decode cX6_count 153 = .ok (.getfield 74, 3) := by decide +kernel
theorem dX6_count_156 : decode cX6_count 156 = .ok (.getfield 263, 3) := by decide +kernel
theorem dX6_count_159 : decode cX6_count 159 = .ok (.ireturn, 1) := by decide +kernel
theorem dX6_count_160 : decode cX6_count 160 = .ok (.aload_n 0, 1) := by decide +kernel
theorem dX6_count_161 : decode cX6_count 161 = .ok (.getfield 22, 3) := by decide +kernel
theorem dX6_count_164 : decode cX6_count 164 = .ok (.getfield 161, 3) := by decide +kernel
theorem dX6_count_167 : decode cX6_count 167 = .ok (.ireturn, 1) := by decide +kernel
theorem dX6_count_168 : decode cX6_count 168 = .ok (.aload_n 0, 1) := by decide +kernel
theorem dX6_count_169 : decode cX6_count 169 = .ok (.getfield 29, 3) := by decide +kernel
theorem dX6_count_172 : decode cX6_count 172 = .ok (.getfield 92, 3) := by decide +kernel
theorem dX6_count_175 : decode cX6_count 175 = .ok (.ireturn, 1) := by decide +kernel
theorem dX6_count_176 : decode cX6_count 176 = .ok (.sipush (-1002), 3) := by decide +kernel
theorem dX6_count_179 : decode cX6_count 179 = .ok (.ireturn, 1) := by decide +kernel
theorem dX6_isPlate_0 : decode cX6_isPlate 0 = .ok (.iload_n 0, 1) := by decide +kernel
theorem dX6_isPlate_1 : decode cX6_isPlate 1 = .ok (.sipush 300, 3) := by decide +kernel
theorem dX6_isPlate_4 : decode cX6_isPlate 4 = .ok (.if_icmp .lt 27, 3) := by decide +kernel
theorem dX6_isPlate_7 : decode cX6_isPlate 7 = .ok (.iload_n 0, 1) := by decide +kernel
theorem dX6_isPlate_8 : decode cX6_isPlate 8 = .ok (.sipush 6000, 3) := by decide +kernel
theorem dX6_isPlate_11 : decode cX6_isPlate 11 = .ok (.if_icmp .gt 20, 3) := by decide +kernel
theorem dX6_isPlate_14 : decode cX6_isPlate 14 = .ok (.iload_n 1, 1) := by decide +kernel
theorem dX6_isPlate_15 : decode cX6_isPlate 15 = .ok (.bipush 100, 2) := by decide +kernel
theorem dX6_isPlate_17 : decode cX6_isPlate 17 = .ok (.if_icmp .lt 14, 3) := by decide +kernel
theorem dX6_isPlate_20 : decode cX6_isPlate 20 = .ok (.iload_n 1, 1) := by decide +kernel
theorem dX6_isPlate_21 : decode cX6_isPlate 21 = .ok (.sipush 3000, 3) := by decide +kernel
theorem dX6_isPlate_24 : decode cX6_isPlate 24 = .ok (.if_icmp .gt 7, 3) := by decide +kernel
theorem dX6_isPlate_27 : decode cX6_isPlate 27 = .ok (.iconst 1, 1) := by decide +kernel
end
section
theorem dX6_isPlate_28 : decode cX6_isPlate 28 = .ok (.goto 4, 3) := by decide +kernel
theorem dX6_isPlate_31 : decode cX6_isPlate 31 = .ok (.iconst 0, 1) := by decide +kernel
theorem dX6_isPlate_32 : decode cX6_isPlate 32 = .ok (.ireturn, 1) := by decide +kernel
theorem dX7_init_0 : decode cX7_init 0 = .ok (.aload_n 0, 1) := by decide +kernel
theorem dX7_init_1 : decode cX7_init 1 = .ok (.invokespecial 1, 3) := by decide +kernel
theorem dX7_init_4 : decode cX7_init 4 = .ok (.aload_n 0, 1) := by decide +kernel
theorem dX7_init_5 : decode cX7_init 5 = .ok (.sipush 417, 3) := by decide +kernel
theorem dX7_init_8 : decode cX7_init 8 = .ok (.newarray .int, 2) := by decide +kernel
theorem dX7_init_10 : decode cX7_init 10 = .ok (.putfield 7, 3) := by decide +kernel
theorem dX7_init_13 : decode cX7_init 13 = .ok (.aload_n 0, 1) := by decide +kernel
theorem dX7_init_14 : decode cX7_init 14 = .ok (.sipush 2085, 3) := by decide +kernel
theorem dX7_init_17 : decode cX7_init 17 = .ok (.newarray .int, 2) := by decide +kernel
theorem dX7_init_19 : decode cX7_init 19 = .ok (.putfield 13, 3) := by decide +kernel
theorem dX7_init_22 : decode cX7_init 22 = .ok (.aload_n 0, 1) := by decide +kernel
theorem dX7_init_23 : decode cX7_init 23 = .ok (.sipush 417, 3) := by decide +kernel
theorem dX7_init_26 : decode cX7_init 26 = .ok (.newarray .int, 2) := by decide +kernel
theorem dX7_init_28 : decode cX7_init 28 = .ok (.putfield 16, 3) := by decide +kernel
theorem dX7_init_31 : decode cX7_init 31 = .ok (.aload_n 0, 1) := by decide +kernel
theorem dX7_init_32 : decode cX7_init 32 = .ok (.bipush 60, 2) := by decide +kernel
theorem dX7_init_34 : decode cX7_init 34 = .ok (.newarray .char, 2) := by decide +kernel
theorem dX7_init_36 : decode cX7_init 36 = .ok (.putfield 19, 3) := by decide +kernel
theorem dX7_init_39 : decode cX7_init 39 = .ok (.aload_n 0, 1) := by decide +kernel
theorem dX7_init_40 : decode cX7_init 40 = .ok (.getfield 7, 3) := by decide +kernel
theorem dX7_init_43 : decode cX7_init 43 = .ok (.iconst 0, 1) := by decide +kernel
theorem dX7_init_44 : decode cX7_init 44 = .ok (.sipush 2000, 3) := by decide +kernel
theorem dX7_init_47 : decode cX7_init 47 = .ok (.iastore, 1) := by decide +kernel
theorem dX7_init_48 : decode cX7_init 48 = .ok (.aload_n 0, 1) := by decide +kernel
theorem dX7_init_49 : decode cX7_init 49 = .ok (.getfield 7, 3) := by decide +kernel
theorem dX7_init_52 : decode cX7_init 52 = .ok (.iconst 1, 1) := by decide +kernel
theorem dX7_init_53 : decode cX7_init 53 = .ok (.sipush 1000, 3) := by decide +kernel
theorem dX7_init_56 : decode cX7_init 56 = .ok (.iastore, 1) := by decide +kernel
theorem dX7_init_57 : decode cX7_init 57 = .ok (.aload_n 0, 1) := by decide +kernel
theorem dX7_init_58 : decode cX7_init 58 = .ok (.getfield 7, 3) := by decide +kernel
theorem dX7_init_61 : decode cX7_init 61 = .ok (.iconst 2, 1) := by decide +kernel
theorem dX7_init_62 : decode cX7_init 62 = .ok (.bipush 20, 2) := by decide +kernel
theorem dX7_init_64 : decode cX7_init 64 = .ok (.iastore, 1) := by decide +kernel
theorem dX7_init_65 : decode cX7_init 65 = .ok (.aload_n 0, 1) := by decide +kernel
theorem dX7_init_66 : decode cX7_init 66 = .ok (.getfield 7, 3) := by decide +kernel
theorem dX7_init_69 : decode cX7_init 69 = .ok (.iconst 3, 1) := by decide +kernel
theorem dX7_init_70 : decode cX7_init 70 = .ok (.iconst 1, 1) := by decide +kernel
theorem dX7_init_71 : decode cX7_init 71 = .ok (.iastore, 1) := by decide +kernel
theorem dX7_init_72 : decode cX7_init 72 = .ok (.return_, 1) := by decide +kernel
theorem dX7_in_0 : decode cX7_in 0 = .ok (.iload_n 0, 1) := by decide +kernel
theorem dX7_in_1 : decode cX7_in 1 = .ok (.iload_n 1, 1) := by decide +kernel
theorem dX7_in_2 : decode cX7_in 2 = .ok (.if_icmp .lt 12, 3) := by decide +kernel
theorem dX7_in_5 : decode cX7_in 5 = .ok (.iload_n 0, 1) := by decide +kernel
theorem dX7_in_6 : decode cX7_in 6 = .ok (.iload_n 2, 1) := by decide +kernel
theorem dX7_in_7 : decode cX7_in 7 = .ok (.if_icmp .gt 7, 3) := by decide +kernel
theorem dX7_in_10 : decode cX7_in 10 = .ok (.iconst 1, 1) := by decide +kernel
theorem dX7_in_11 : decode cX7_in 11 = .ok (.goto 4, 3) := by decide +kernel
theorem dX7_in_14 : decode cX7_in 14 = .ok (.iconst 0, 1) := by decide +kernel
theorem dX7_in_15 : decode cX7_in 15 = .ok (.ireturn, 1) := by decide +kernel
theorem dX7_record_0 : decode cX7_record 0 = .ok (.aload_n 0, 1) := by decide +kernel
theorem dX7_record_1 : decode cX7_record 1 = .ok (.getfield 23, 3) := by decide +kernel
theorem dX7_record_4 : decode cX7_record 4 = .ok (.iconst 5, 1) := by decide +kernel
theorem dX7_record_5 : decode cX7_record 5 = .ok (.if_icmp .ne 44, 3) := by decide +kernel
theorem dX7_record_8 : decode cX7_record 8 = .ok (.iconst 0, 1) := by decide +kernel
theorem dX7_record_9 : decode cX7_record 9 = .ok (.istore_n 1, 1) := by decide +kernel
theorem dX7_record_10 : decode cX7_record 10 = .ok (.iload_n 1, 1) := by decide +kernel
theorem dX7_record_11 : decode cX7_record 11 = .ok (.sipush 1668, 3) := by decide +kernel
theorem dX7_record_14 : decode cX7_record 14 = .ok (.if_icmp .ge 25, 3) := by decide +kernel
theorem dX7_record_17 : decode cX7_record 17 = .ok (.aload_n 0, 1) := by decide +kernel
theorem dX7_record_18 : decode cX7_record 18 = .ok (.getfield 13, 3) := by decide +kernel
theorem dX7_record_21 : decode cX7_record 21 = .ok (.iload_n 1, 1) := by decide +kernel
theorem dX7_record_22 : decode cX7_record 22 = .ok (.aload_n 0, 1) := by decide +kernel
theorem dX7_record_23 : decode cX7_record 23 = .ok (.getfield 13, 3) := by decide +kernel
theorem dX7_record_26 : decode cX7_record 26 = .ok (.iload_n 1, 1) := by decide +kernel
theorem dX7_record_27 : decode cX7_record 27 = .ok (.sipush 417, 3) := by decide +kernel
theorem dX7_record_30 : decode cX7_record 30 = .ok (.iadd, 1) := by decide +kernel
theorem dX7_record_31 : decode cX7_record 31 = .ok (.iaload, 1) := by decide +kernel
theorem dX7_record_32 : decode cX7_record 32 = .ok (.iastore, 1) := by decide +kernel
theorem dX7_record_33 : decode cX7_record 33 = .ok (.iinc 1 1, 3) := by decide +kernel
theorem dX7_record_36 : decode cX7_record 36 = .ok (.goto (-26), 3) := by decide +kernel
theorem dX7_record_39 : decode cX7_record 39 = .ok (.aload_n 0, 1) := by decide +kernel
theorem dX7_record_40 : decode cX7_record 40 = .ok (.dup, 1) := by decide +kernel
theorem dX7_record_41 : decode cX7_record 41 = .ok (.getfield 23, 3) := by decide +kernel
theorem dX7_record_44 : decode cX7_record 44 = .ok (.iconst 1, 1) := by decide +kernel
theorem dX7_record_45 : decode cX7_record 45 = .ok (.isub, 1) := by decide +kernel
theorem dX7_record_46 : decode cX7_record 46 = .ok (.putfield 23, 3) := by decide +kernel
theorem dX7_record_49 : decode cX7_record 49 = .ok (.iconst 0, 1) := by decide +kernel
theorem dX7_record_50 : decode cX7_record 50 = .ok (.istore_n 1, 1) := by decide +kernel
theorem dX7_record_51 : decode cX7_record 51 = .ok (.iload_n 1, 1) := by decide +kernel
theorem dX7_record_52 : decode cX7_record 52 = .ok (.sipush 417, 3) := by decide +kernel
theorem dX7_record_55 : decode cX7_record 55 = .ok (.if_icmp .ge 30, 3) := by decide +kernel
theorem dX7_record_58 : decode cX7_record 58 = .ok (.aload_n 0, 1) := by decide +kernel
theorem dX7_record_59 : decode cX7_record 59 = .ok (.getfield 13, 3) := by decide +kernel
theorem dX7_record_62 : decode cX7_record 62 = .ok (.sipush 417, 3) := by decide +kernel
theorem dX7_record_65 : decode cX7_record 65 = .ok (.aload_n 0, 1) := by decide +kernel
theorem dX7_record_66 : decode cX7_record 66 = .ok (.getfield 23, 3) := by decide +kernel
theorem dX7_record_69 : decode cX7_record 69 = .ok (.imul, 1) := by decide +kernel
theorem dX7_record_70 : decode cX7_record 70 = .ok (.iload_n 1, 1) := by decide +kernel
theorem dX7_record_71 : decode cX7_record 71 = .ok (.iadd, 1) := by decide +kernel
theorem dX7_record_72 : decode cX7_record 72 = .ok (.aload_n 0, 1) := by decide +kernel
theorem dX7_record_73 : decode cX7_record 73 = .ok (.getfield 7, 3) := by decide +kernel
theorem dX7_record_76 : decode cX7_record 76 = .ok (.iload_n 1, 1) := by decide +kernel
theorem dX7_record_77 : decode cX7_record 77 = .ok (.iaload, 1) := by decide +kernel
theorem dX7_record_78 : decode cX7_record 78 = .ok (.iastore, 1) := by decide +kernel
theorem dX7_record_79 : decode cX7_record 79 = .ok (.iinc 1 1, 3) := by decide +kernel
theorem dX7_record_82 : decode cX7_record 82 = .ok (.goto (-31), 3) := by decide +kernel
theorem dX7_record_85 : decode cX7_record 85 = .ok (.aload_n 0, 1) := by decide +kernel
theorem dX7_record_86 : decode cX7_record 86 = .ok (.dup, 1) := by decide +kernel
theorem dX7_record_87 : decode cX7_record 87 = .ok (.getfield 23, 3) := by decide +kernel
theorem dX7_record_90 : decode cX7_record 90 = .ok (.iconst 1, 1) := by decide +kernel
theorem dX7_record_91 : decode cX7_record 91 = .ok (.iadd, 1) := by decide +kernel
theorem dX7_record_92 : decode cX7_record 92 = .ok (.putfield 23, 3) := by decide +kernel
theorem dX7_record_95 : decode cX7_record 95 = .ok (.return_, 1) := by decide +kernel
set_option maxRecDepth 20000 in
theorem ggX7_isLetter_X7_in : GoodIn wsX7_isLetter wsX7_in := goodIn_r _ [4] (by decide +kernel) (by decide +kernel)
set_option maxRecDepth 20000 in
theorem gX7_isLetter_X7_in : GoodIn wsX7_isLetter (va_wsS RX7 27 yX7_in wsX7_in) := goodIn_app (goodIn_of _ (by decide +kernel)) ggX7_isLetter_X7_in
theorem dX7_isLetter_0 : decode cX7_isLetter 0 = .ok (.iload_n 0, 1) := by decide +kernel
theorem dX7_isLetter_1 : decode cX7_isLetter 1 = .ok (.bipush 65, 2) := by decide +kernel
theorem dX7_isLetter_3 : decode cX7_isLetter 3 = .ok (.bipush 90, 2) := by decide +kernel
theorem dX7_isLetter_5 : decode cX7_isLetter 5 = .ok (.invokestatic 27, 3) := by decide +kernel
theorem dX7_isLetter_8 : decode cX7_isLetter 8 = .ok (.ireturn, 1) := by decide +kernel
theorem dX7_isPoint_0 : decode cX7_isPoint 0 = .ok (.iload_n 0, 1) := by decide +kernel
theorem dX7_isPoint_1 : decode cX7_isPoint 1 = .ok (.bipush 46, 2) := by decide +kernel
theorem dX7_isPoint_3 : decode cX7_isPoint 3 = .ok (.if_icmp .eq 9, 3) := by decide +kernel
theorem dX7_isPoint_6 : decode cX7_isPoint 6 = .ok (.iload_n 0, 1) := by decide +kernel
theorem dX7_isPoint_7 : decode cX7_isPoint 7 = .ok (.bipush 45, 2) := by decide +kernel
theorem dX7_isPoint_9 : decode cX7_isPoint 9 = .ok (.if_icmp .ne 7, 3) := by decide +kernel
theorem dX7_isPoint_12 : decode cX7_isPoint 12 = .ok (.iconst 1, 1) := by decide +kernel
theorem dX7_isPoint_13 : decode cX7_isPoint 13 = .ok (.goto 4, 3) := by decide +kernel
theorem dX7_isPoint_16 : decode cX7_isPoint 16 = .ok (.iconst 0, 1) := by decide +kernel
theorem dX7_isPoint_17 : decode cX7_isPoint 17 = .ok (.ireturn, 1) := by decide +kernel
set_option maxRecDepth 20000 in
theorem ggX7_wide_X7_isLetter : GoodIn wsX7_wide wsX7_isLetter := goodIn_r _ [4, 5, 6, 3, 7] (by decide +kernel) (by decide +kernel)
set_option maxRecDepth 20000 in
theorem gX7_wide_X7_isLetter : GoodIn wsX7_wide (va_wsS RX7 31 yX7_isLetter wsX7_isLetter) := goodIn_app (goodIn_of _ (by decide +kernel)) ggX7_wide_X7_isLetter
theorem dX7_wide_0 : decode cX7_wide 0 = .ok (.iload_n 0, 1) := by decide +kernel
theorem dX7_wide_1 : decode cX7_wide 1 = .ok (.invokestatic 31, 3) := by decide +kernel
theorem dX7_wide_4 : decode cX7_wide 4 = .ok (.ifCond .eq 17, 3) := by decide +kernel
theorem dX7_wide_7 : decode cX7_wide 7 = .ok (.iconst 3, 1) := by decide +kernel
theorem dX7_wide_8 : decode cX7_wide 8 = .ok (.iload_n 0, 1) := by decide +kernel
theorem dX7_wide_9 : decode cX7_wide 9 = .ok (.bipush 65, 2) := by decide +kernel
theorem dX7_wide_11 : decode cX7_wide 11 = .ok (.isub, 1) := by decide +kernel
theorem dX7_wide_12 : decode cX7_wide 12 = .ok (.iconst 5, 1) := by decide +kernel
theorem dX7_wide_13 : decode cX7_wide 13 = .ok (.imul, 1) := by decide +kernel
theorem dX7_wide_14 : decode cX7_wide 14 = .ok (.bipush 7, 2) := by decide +kernel
theorem dX7_wide_16 : decode cX7_wide 16 = .ok (.irem, 1) := by decide +kernel
theorem dX7_wide_17 : decode cX7_wide 17 = .ok (.iadd, 1) := by decide +kernel
theorem dX7_wide_18 : decode cX7_wide 18 = .ok (.goto 14, 3) := by decide +kernel
theorem dX7_wide_21 : decode cX7_wide 21 = .ok (.iload_n 0, 1) := by decide +kernel
theorem dX7_wide_22 : decode cX7_wide 22 = .ok (.bipush 46, 2) := by decide +kernel
theorem dX7_wide_24 : decode cX7_wide 24 = .ok (.if_icmp .ne 7, 3) := by decide +kernel
theorem dX7_wide_27 : decode cX7_wide 27 = .ok (.iconst 2, 1) := by decide +kernel
theorem dX7_wide_28 : decode cX7_wide 28 = .ok (.goto 4, 3) := by decide +kernel
theorem dX7_wide_31 : decode cX7_wide 31 = .ok (.iconst 4, 1) := by decide +kernel
theorem dX7_wide_32 : decode cX7_wide 32 = .ok (.ireturn, 1) := by decide +kernel
set_option maxRecDepth 20000 in
theorem ggX7_open_X7_isLetter : GoodIn wsX7_open wsX7_isLetter := goodIn_r _ [4, 5, 6, 3, 7] (by decide +kernel) (by decide +kernel)
set_option maxRecDepth 20000 in
theorem gX7_open_X7_isLetter : GoodIn wsX7_open (va_wsS RX7 31 yX7_isLetter wsX7_isLetter) := goodIn_app (goodIn_of _ (by decide +kernel)) ggX7_open_X7_isLetter
theorem dX7_open_0 : decode cX7_open 0 = .ok (.iload_n 0, 1) := by decide +kernel
theorem dX7_open_1 : decode cX7_open 1 = .ok (.invokestatic 31, 3) := by decide +kernel
theorem dX7_open_4 : decode cX7_open 4 = .ok (.ifCond .eq 12, 3) := by decide +kernel
theorem dX7_open_7 : decode cX7_open 7 = .ok (.iload_n 0, 1) := by decide +kernel
theorem dX7_open_8 : decode cX7_open 8 = .ok (.bipush 65, 2) := by decide +kernel
theorem dX7_open_10 : decode cX7_open 10 = .ok (.isub, 1) := by decide +kernel
theorem dX7_open_11 : decode cX7_open 11 = .ok (.iconst 3, 1) := by decide +kernel
theorem dX7_open_12 : decode cX7_open 12 = .ok (.irem, 1) := by decide +kernel
theorem dX7_open_13 : decode cX7_open 13 = .ok (.goto 4, 3) := by decide +kernel
theorem dX7_open_16 : decode cX7_open 16 = .ok (.iconst 2, 1) := by decide +kernel
theorem dX7_open_17 : decode cX7_open 17 = .ok (.ireturn, 1) := by decide +kernel
set_option maxRecDepth 20000 in
theorem ggX7_ink_X7_isLetter : GoodIn wsX7_ink wsX7_isLetter := goodIn_r _ [4, 5, 6, 3, 7] (by decide +kernel) (by decide +kernel)
set_option maxRecDepth 20000 in
theorem gX7_ink_X7_isLetter : GoodIn wsX7_ink (va_wsS RX7 31 yX7_isLetter wsX7_isLetter) := goodIn_app (goodIn_of _ (by decide +kernel)) ggX7_ink_X7_isLetter
theorem dX7_ink_0 : decode cX7_ink 0 = .ok (.iload_n 0, 1) := by decide +kernel
theorem dX7_ink_1 : decode cX7_ink 1 = .ok (.invokestatic 31, 3) := by decide +kernel
theorem dX7_ink_4 : decode cX7_ink 4 = .ok (.ifCond .eq 16, 3) := by decide +kernel
theorem dX7_ink_7 : decode cX7_ink 7 = .ok (.iconst 1, 1) := by decide +kernel
theorem dX7_ink_8 : decode cX7_ink 8 = .ok (.iload_n 0, 1) := by decide +kernel
theorem dX7_ink_9 : decode cX7_ink 9 = .ok (.bipush 65, 2) := by decide +kernel
theorem dX7_ink_11 : decode cX7_ink 11 = .ok (.isub, 1) := by decide +kernel
theorem dX7_ink_12 : decode cX7_ink 12 = .ok (.iconst 3, 1) := by decide +kernel
theorem dX7_ink_13 : decode cX7_ink 13 = .ok (.imul, 1) := by decide +kernel
theorem dX7_ink_14 : decode cX7_ink 14 = .ok (.iconst 5, 1) := by decide +kernel
theorem dX7_ink_15 : decode cX7_ink 15 = .ok (.irem, 1) := by decide +kernel
theorem dX7_ink_16 : decode cX7_ink 16 = .ok (.iadd, 1) := by decide +kernel
theorem dX7_ink_17 : decode cX7_ink 17 = .ok (.goto 14, 3) := by decide +kernel
theorem dX7_ink_20 : decode cX7_ink 20 = .ok (.iload_n 0, 1) := by decide +kernel
theorem dX7_ink_21 : decode cX7_ink 21 = .ok (.bipush 46, 2) := by decide +kernel
theorem dX7_ink_23 : decode cX7_ink 23 = .ok (.if_icmp .ne 7, 3) := by decide +kernel
theorem dX7_ink_26 : decode cX7_ink 26 = .ok (.iconst 1, 1) := by decide +kernel
theorem dX7_ink_27 : decode cX7_ink 27 = .ok (.goto 4, 3) := by decide +kernel
theorem dX7_ink_30 : decode cX7_ink 30 = .ok (.iconst 2, 1) := by decide +kernel
theorem dX7_ink_31 : decode cX7_ink 31 = .ok (.ireturn, 1) := by decide +kernel
theorem dX7_placeOf_0 : decode cX7_placeOf 0 = .ok (.iconst 0, 1) := by decide +kernel
theorem dX7_placeOf_1 : decode cX7_placeOf 1 = .ok (.istore_n 3, 1) := by decide +kernel
theorem dX7_placeOf_2 : decode cX7_placeOf 2 = .ok (.iload_n 3, 1) := by decide +kernel
theorem dX7_placeOf_3 : decode cX7_placeOf 3 = .ok (.aload_n 0, 1) := by decide +kernel
theorem dX7_placeOf_4 : decode cX7_placeOf 4 = .ok (.getfield 7, 3) := by decide +kernel
theorem dX7_placeOf_7 : decode cX7_placeOf 7 = .ok (.bipush 8, 2) := by decide +kernel
theorem dX7_placeOf_9 : decode cX7_placeOf 9 = .ok (.iaload, 1) := by decide +kernel
theorem dX7_placeOf_10 : decode cX7_placeOf 10 = .ok (.if_icmp .ge 43, 3) := by decide +kernel
theorem dX7_placeOf_13 : decode cX7_placeOf 13 = .ok (.aload_n 0, 1) := by decide +kernel
theorem dX7_placeOf_14 : decode cX7_placeOf 14 = .ok (.getfield 7, 3) := by decide +kernel
theorem dX7_placeOf_17 : decode cX7_placeOf 17 = .ok (.bipush 9, 2) := by decide +kernel
theorem dX7_placeOf_19 : decode cX7_placeOf 19 = .ok (.iconst 3, 1) := by decide +kernel
theorem dX7_placeOf_20 : decode cX7_placeOf 20 = .ok (.iload_n 3, 1) := by decide +kernel
theorem dX7_placeOf_21 : decode cX7_placeOf 21 = .ok (.imul, 1) := by decide +kernel
theorem dX7_placeOf_22 : decode cX7_placeOf 22 = .ok (.iadd, 1) := by decide +kernel
theorem dX7_placeOf_23 : decode cX7_placeOf 23 = .ok (.iaload, 1) := by decide +kernel
theorem dX7_placeOf_24 : decode cX7_placeOf 24 = .ok (.iload_n 1, 1) := by decide +kernel
theorem dX7_placeOf_25 : decode cX7_placeOf 25 = .ok (.if_icmp .ne 22, 3) := by decide +kernel
theorem dX7_placeOf_28 : decode cX7_placeOf 28 = .ok (.aload_n 0, 1) := by decide +kernel
theorem dX7_placeOf_29 : decode cX7_placeOf 29 = .ok (.getfield 7, 3) := by decide +kernel
theorem dX7_placeOf_32 : decode cX7_placeOf 32 = .ok (.bipush 9, 2) := by decide +kernel
theorem dX7_placeOf_34 : decode cX7_placeOf 34 = .ok (.iconst 3, 1) := by decide +kernel
theorem dX7_placeOf_35 : decode cX7_placeOf 35 = .ok (.iload_n 3, 1) := by decide +kernel
theorem dX7_placeOf_36 : decode cX7_placeOf 36 = .ok (.imul, 1) := by decide +kernel
theorem dX7_placeOf_37 : decode cX7_placeOf 37 = .ok (.iadd, 1) := by decide +kernel
theorem dX7_placeOf_38 : decode cX7_placeOf 38 = .ok (.iconst 1, 1) := by decide +kernel
theorem dX7_placeOf_39 : decode cX7_placeOf 39 = .ok (.iadd, 1) := by decide +kernel
theorem dX7_placeOf_40 : decode cX7_placeOf 40 = .ok (.iaload, 1) := by decide +kernel
theorem dX7_placeOf_41 : decode cX7_placeOf 41 = .ok (.iload_n 2, 1) := by decide +kernel
theorem dX7_placeOf_42 : decode cX7_placeOf 42 = .ok (.if_icmp .ne 5, 3) := by decide +kernel
theorem dX7_placeOf_45 : decode cX7_placeOf 45 = .ok (.iload_n 3, 1) := by decide +kernel
theorem dX7_placeOf_46 : decode cX7_placeOf 46 = .ok (.ireturn, 1) := by decide +kernel
theorem dX7_placeOf_47 : decode cX7_placeOf 47 = .ok (.iinc 3 1, 3) := by decide +kernel
theorem dX7_placeOf_50 : decode cX7_placeOf 50 = .ok (.goto (-48), 3) := by decide +kernel
theorem dX7_placeOf_53 : decode cX7_placeOf 53 = .ok (.sipush (-1005), 3) := by decide +kernel
theorem dX7_placeOf_56 : decode cX7_placeOf 56 = .ok (.ireturn, 1) := by decide +kernel
set_option maxRecDepth 20000 in
theorem ggX7_adjusted_X7_placeOf : GoodIn wsX7_adjusted wsX7_placeOf := goodIn_r _ [6, 1, 7, 8, 9, 10, 11, 12, 13] (by decide +kernel) (by decide +kernel)
set_option maxRecDepth 20000 in
theorem gX7_adjusted_X7_placeOf : GoodIn wsX7_adjusted (wsV RX7 35 RX7 yX7_placeOf wsX7_placeOf) := goodIn_app (goodIn_of _ (by decide +kernel)) ggX7_adjusted_X7_placeOf
theorem dX7_adjusted_0 : decode cX7_adjusted 0 = .ok (.aload_n 0, 1) := by decide +kernel
theorem dX7_adjusted_1 : decode cX7_adjusted 1 = .ok (.iload_n 1, 1) := by decide +kernel
theorem dX7_adjusted_2 : decode cX7_adjusted 2 = .ok (.iload_n 2, 1) := by decide +kernel
theorem dX7_adjusted_3 : decode cX7_adjusted 3 = .ok (.invokevirtual 35, 3) := by decide +kernel
theorem dX7_adjusted_6 : decode cX7_adjusted 6 = .ok (.istore_n 3, 1) := by decide +kernel
theorem dX7_adjusted_7 : decode cX7_adjusted 7 = .ok (.iload_n 3, 1) := by decide +kernel
theorem dX7_adjusted_8 : decode cX7_adjusted 8 = .ok (.sipush (-1005), 3) := by decide +kernel
theorem dX7_adjusted_11 : decode cX7_adjusted 11 = .ok (.if_icmp .ne 7, 3) := by decide +kernel
theorem dX7_adjusted_14 : decode cX7_adjusted 14 = .ok (.iconst 0, 1) := by decide +kernel
theorem dX7_adjusted_15 : decode cX7_adjusted 15 = .ok (.goto 16, 3) := by decide +kernel
theorem dX7_adjusted_18 : decode cX7_adjusted 18 = .ok (.aload_n 0, 1) := by decide +kernel
theorem dX7_adjusted_19 : decode cX7_adjusted 19 = .ok (.getfield 7, 3) := by decide +kernel
theorem dX7_adjusted_22 : decode cX7_adjusted 22 = .ok (.bipush 9, 2) := by decide +kernel
theorem dX7_adjusted_24 : decode cX7_adjusted 24 = .ok (.iconst 3, 1) := by decide +kernel
theorem dX7_adjusted_25 : decode cX7_adjusted 25 = .ok (.iload_n 3, 1) := by decide +kernel
theorem dX7_adjusted_26 : decode cX7_adjusted 26 = .ok (.imul, 1) := by decide +kernel
theorem dX7_adjusted_27 : decode cX7_adjusted 27 = .ok (.iadd, 1) := by decide +kernel
theorem dX7_adjusted_28 : decode cX7_adjusted 28 = .ok (.iconst 2, 1) := by decide +kernel
theorem dX7_adjusted_29 : decode cX7_adjusted 29 = .ok (.iadd, 1) := by decide +kernel
theorem dX7_adjusted_30 : decode cX7_adjusted 30 = .ok (.iaload, 1) := by decide +kernel
theorem dX7_adjusted_31 : decode cX7_adjusted 31 = .ok (.ireturn, 1) := by decide +kernel
set_option maxRecDepth 20000 in
theorem ggX7_space_X7_open : GoodIn wsX7_space wsX7_open := goodIn_r _ [4, 5, 6, 3, 7, 8, 9, 10] (by decide +kernel) (by decide +kernel)
set_option maxRecDepth 20000 in
theorem gX7_space_X7_open : GoodIn wsX7_space (va_wsS RX7 39 yX7_open wsX7_open) := goodIn_app (goodIn_of _ (by decide +kernel)) ggX7_space_X7_open
set_option maxRecDepth 20000 in
theorem ggX7_space_X7_adjusted : GoodIn wsX7_space wsX7_adjusted := goodIn_r _ [14, 15, 16, 17, 18, 3, 19, 20, 21, 22, 23, 24, 25, 26] (by decide +kernel) (by decide +kernel)
set_option maxRecDepth 20000 in
theorem gX7_space_X7_adjusted : GoodIn wsX7_space (wsV RX7 43 RX7 yX7_adjusted wsX7_adjusted) := goodIn_app (goodIn_of _ (by decide +kernel)) ggX7_space_X7_adjusted
theorem dX7_space_0 : decode cX7_space 0 = .ok (.bipush 6, 2) := by decide +kernel
theorem dX7_space_2 : decode cX7_space 2 = .ok (.iload_n 1, 1) := by decide +kernel
theorem dX7_space_3 : decode cX7_space 3 = .ok (.invokestatic 39, 3) := by decide +kernel
theorem dX7_space_6 : decode cX7_space 6 = .ok (.isub, 1) := by decide +kernel
theorem dX7_space_7 : decode cX7_space 7 = .ok (.iload_n 2, 1) := by decide +kernel
theorem dX7_space_8 : decode cX7_space 8 = .ok (.invokestatic 39, 3) := by decide +kernel
theorem dX7_space_11 : decode cX7_space 11 = .ok (.isub, 1) := by decide +kernel
theorem dX7_space_12 : decode cX7_space 12 = .ok (.aload_n 0, 1) := by decide +kernel
theorem dX7_space_13 : decode cX7_space 13 = .ok (.iload_n 1, 1) := by decide +kernel
theorem dX7_space_14 : decode cX7_space 14 = .ok (.iload_n 2, 1) := by decide +kernel
theorem dX7_space_15 : decode cX7_space 15 = .ok (.invokevirtual 43, 3) := by decide +kernel
theorem dX7_space_18 : decode cX7_space 18 = .ok (.iadd, 1) := by decide +kernel
theorem dX7_space_19 : decode cX7_space 19 = .ok (.istore_n 3, 1) := by decide +kernel
theorem dX7_space_20 : decode cX7_space 20 = .ok (.iload_n 3, 1) := by decide +kernel
theorem dX7_space_21 : decode cX7_space 21 = .ok (.iconst 1, 1) := by decide +kernel
theorem dX7_space_22 : decode cX7_space 22 = .ok (.if_icmp .ge 7, 3) := by decide +kernel
theorem dX7_space_25 : decode cX7_space 25 = .ok (.iconst 1, 1) := by decide +kernel
theorem dX7_space_26 : decode cX7_space 26 = .ok (.goto 4, 3) := by decide +kernel
theorem dX7_space_29 : decode cX7_space 29 = .ok (.iload_n 3, 1) := by decide +kernel
theorem dX7_space_30 : decode cX7_space 30 = .ok (.ireturn, 1) := by decide +kernel
set_option maxRecDepth 20000 in
theorem ggX7_noSeat_X7_in : GoodIn wsX7_noSeat wsX7_in := goodIn_r _ [5] (by decide +kernel) (by decide +kernel)
set_option maxRecDepth 20000 in
theorem gX7_noSeat_X7_in : GoodIn wsX7_noSeat (va_wsS RX7 27 yX7_in wsX7_in) := goodIn_app (goodIn_of _ (by decide +kernel)) ggX7_noSeat_X7_in
theorem dX7_noSeat_0 : decode cX7_noSeat 0 = .ok (.iload_n 1, 1) := by decide +kernel
theorem dX7_noSeat_1 : decode cX7_noSeat 1 = .ok (.iconst 0, 1) := by decide +kernel
theorem dX7_noSeat_2 : decode cX7_noSeat 2 = .ok (.aload_n 0, 1) := by decide +kernel
theorem dX7_noSeat_3 : decode cX7_noSeat 3 = .ok (.getfield 7, 3) := by decide +kernel
theorem dX7_noSeat_6 : decode cX7_noSeat 6 = .ok (.iconst 4, 1) := by decide +kernel
theorem dX7_noSeat_7 : decode cX7_noSeat 7 = .ok (.iaload, 1) := by decide +kernel
theorem dX7_noSeat_8 : decode cX7_noSeat 8 = .ok (.iconst 1, 1) := by decide +kernel
theorem dX7_noSeat_9 : decode cX7_noSeat 9 = .ok (.isub, 1) := by decide +kernel
theorem dX7_noSeat_10 : decode cX7_noSeat 10 = .ok (.invokestatic 27, 3) := by decide +kernel
theorem dX7_noSeat_13 : decode cX7_noSeat 13 = .ok (.ifCond .ne 7, 3) := by decide +kernel
theorem dX7_noSeat_16 : decode cX7_noSeat 16 = .ok (.iconst 1, 1) := by decide +kernel
theorem dX7_noSeat_17 : decode cX7_noSeat 17 = .ok (.goto 4, 3) := by decide +kernel
theorem dX7_noSeat_20 : decode cX7_noSeat 20 = .ok (.iconst 0, 1) := by decide +kernel
theorem dX7_noSeat_21 : decode cX7_noSeat 21 = .ok (.ireturn, 1) := by decide +kernel
theorem dX7_of_0 : decode cX7_of 0 = .ok (.aload_n 0, 1) := by decide +kernel
theorem dX7_of_1 : decode cX7_of 1 = .ok (.getfield 7, 3) := by decide +kernel
theorem dX7_of_4 : decode cX7_of 4 = .ok (.bipush 57, 2) := by decide +kernel
theorem dX7_of_6 : decode cX7_of 6 = .ok (.bipush 18, 2) := by decide +kernel
theorem dX7_of_8 : decode cX7_of 8 = .ok (.iload_n 1, 1) := by decide +kernel
theorem dX7_of_9 : decode cX7_of 9 = .ok (.imul, 1) := by decide +kernel
theorem dX7_of_10 : decode cX7_of 10 = .ok (.iadd, 1) := by decide +kernel
theorem dX7_of_11 : decode cX7_of 11 = .ok (.iload_n 2, 1) := by decide +kernel
theorem dX7_of_12 : decode cX7_of 12 = .ok (.iadd, 1) := by decide +kernel
theorem dX7_of_13 : decode cX7_of 13 = .ok (.iaload, 1) := by decide +kernel
theorem dX7_of_14 : decode cX7_of 14 = .ok (.ireturn, 1) := by decide +kernel
set_option maxRecDepth 20000 in
theorem ggX7_signOf_X7_of : GoodIn wsX7_signOf wsX7_of := goodIn_r _ [5, 6, 7, 8, 9, 10, 11, 12, 13] (by decide +kernel) (by decide +kernel)
set_option maxRecDepth 20000 in
theorem gX7_signOf_X7_of : GoodIn wsX7_signOf (wsV RX7 46 RX7 yX7_of wsX7_of) := goodIn_app (goodIn_of _ (by decide +kernel)) ggX7_signOf_X7_of
theorem dX7_signOf_0 : decode cX7_signOf 0 = .ok (.aload_n 0, 1) := by decide +kernel
theorem dX7_signOf_1 : decode cX7_signOf 1 = .ok (.iload_n 1, 1) := by decide +kernel
theorem dX7_signOf_2 : decode cX7_signOf 2 = .ok (.iconst 2, 1) := by decide +kernel
theorem dX7_signOf_3 : decode cX7_signOf 3 = .ok (.iload_n 2, 1) := by decide +kernel
theorem dX7_signOf_4 : decode cX7_signOf 4 = .ok (.iadd, 1) := by decide +kernel
theorem dX7_signOf_5 : decode cX7_signOf 5 = .ok (.invokevirtual 46, 3) := by decide +kernel
theorem dX7_signOf_8 : decode cX7_signOf 8 = .ok (.ireturn, 1) := by decide +kernel
set_option maxRecDepth 20000 in
theorem ggX7_isEngraved_X7_of : GoodIn wsX7_isEngraved wsX7_of := goodIn_r _ [5, 6, 7, 8, 9, 10, 11, 12, 13] (by decide +kernel) (by decide +kernel)
set_option maxRecDepth 20000 in
theorem gX7_isEngraved_X7_of : GoodIn wsX7_isEngraved (wsV RX7 46 RX7 yX7_of wsX7_of) := goodIn_app (goodIn_of _ (by decide +kernel)) ggX7_isEngraved_X7_of
theorem dX7_isEngraved_0 : decode cX7_isEngraved 0 = .ok (.aload_n 0, 1) := by decide +kernel
theorem dX7_isEngraved_1 : decode cX7_isEngraved 1 = .ok (.iload_n 1, 1) := by decide +kernel
theorem dX7_isEngraved_2 : decode cX7_isEngraved 2 = .ok (.iconst 1, 1) := by decide +kernel
theorem dX7_isEngraved_3 : decode cX7_isEngraved 3 = .ok (.invokevirtual 46, 3) := by decide +kernel
theorem dX7_isEngraved_6 : decode cX7_isEngraved 6 = .ok (.iconst 1, 1) := by decide +kernel
theorem dX7_isEngraved_7 : decode cX7_isEngraved 7 = .ok (.if_icmp .ne 7, 3) := by decide +kernel
theorem dX7_isEngraved_10 : decode cX7_isEngraved 10 = .ok (.iconst 1, 1) := by decide +kernel
theorem dX7_isEngraved_11 : decode cX7_isEngraved 11 = .ok (.goto 4, 3) := by decide +kernel
theorem dX7_isEngraved_14 : decode cX7_isEngraved 14 = .ok (.iconst 0, 1) := by decide +kernel
theorem dX7_isEngraved_15 : decode cX7_isEngraved 15 = .ok (.ireturn, 1) := by decide +kernel
set_option maxRecDepth 20000 in
theorem ggX7_engraved_X7_of : GoodIn wsX7_engraved wsX7_of := goodIn_r _ [6, 1, 7, 8, 9, 10, 11, 12, 13] (by decide +kernel) (by decide +kernel)
set_option maxRecDepth 20000 in
theorem gX7_engraved_X7_of : GoodIn wsX7_engraved (wsV RX7 46 RX7 yX7_of wsX7_of) := goodIn_app (goodIn_of _ (by decide +kernel)) ggX7_engraved_X7_of
theorem dX7_engraved_0 : decode cX7_engraved 0 = .ok (.iconst 0, 1) := by decide +kernel
theorem dX7_engraved_1 : decode cX7_engraved 1 = .ok (.istore_n 1, 1) := by decide +kernel
theorem dX7_engraved_2 : decode cX7_engraved 2 = .ok (.iconst 0, 1) := by decide +kernel
theorem dX7_engraved_3 : decode cX7_engraved 3 = .ok (.istore_n 2, 1) := by decide +kernel
theorem dX7_engraved_4 : decode cX7_engraved 4 = .ok (.iload_n 2, 1) := by decide +kernel
theorem dX7_engraved_5 : decode cX7_engraved 5 = .ok (.aload_n 0, 1) := by decide +kernel
theorem dX7_engraved_6 : decode cX7_engraved 6 = .ok (.getfield 7, 3) := by decide +kernel
theorem dX7_engraved_9 : decode cX7_engraved 9 = .ok (.iconst 4, 1) := by decide +kernel
theorem dX7_engraved_10 : decode cX7_engraved 10 = .ok (.iaload, 1) := by decide +kernel
theorem dX7_engraved_11 : decode cX7_engraved 11 = .ok (.if_icmp .ge 18, 3) := by decide +kernel
theorem dX7_engraved_14 : decode cX7_engraved 14 = .ok (.iload_n 1, 1) := by decide +kernel
theorem dX7_engraved_15 : decode cX7_engraved 15 = .ok (.aload_n 0, 1) := by decide +kernel
theorem dX7_engraved_16 : decode cX7_engraved 16 = .ok (.iload_n 2, 1) := by decide +kernel
theorem dX7_engraved_17 : decode cX7_engraved 17 = .ok (.iconst 1, 1) := by decide +kernel
theorem dX7_engraved_18 : decode cX7_engraved 18 = .ok (.invokevirtual 46, 3) := by decide +kernel
theorem dX7_engraved_21 : decode cX7_engraved 21 = .ok (.iadd, 1) := by decide +kernel
theorem dX7_engraved_22 : decode cX7_engraved 22 = .ok (.istore_n 1, 1) := by decide +kernel
theorem dX7_engraved_23 : decode cX7_engraved 23 = .ok (.iinc 2 1, 3) := by decide +kernel
theorem dX7_engraved_26 : decode cX7_engraved 26 = .ok (.goto (-22), 3) := by decide +kernel
theorem dX7_engraved_29 : decode cX7_engraved 29 = .ok (.iload_n 1, 1) := by decide +kernel
theorem dX7_engraved_30 : decode cX7_engraved 30 = .ok (.ireturn, 1) := by decide +kernel
set_option maxRecDepth 20000 in
theorem ggX7_unitsTo_X7_signOf : GoodIn wsX7_unitsTo wsX7_signOf := goodIn_r _ [5, 6, 7, 8, 4, 9, 10, 35, 36, 37, 38, 39, 40, 41] (by decide +kernel) (by decide +kernel)
set_option maxRecDepth 20000 in
theorem gX7_unitsTo_X7_signOf : GoodIn wsX7_unitsTo (wsV RX7 49 RX7 yX7_signOf wsX7_signOf) := goodIn_app (goodIn_of _ (by decide +kernel)) ggX7_unitsTo_X7_signOf
set_option maxRecDepth 20000 in
theorem ggX7_unitsTo_X7_wide : GoodIn wsX7_unitsTo wsX7_wide := goodIn_r _ [13, 14, 15, 4, 16, 17, 18, 19] (by decide +kernel) (by decide +kernel)
set_option maxRecDepth 20000 in
theorem gX7_unitsTo_X7_wide : GoodIn wsX7_unitsTo (va_wsS RX7 52 yX7_wide wsX7_wide) := goodIn_app (goodIn_of _ (by decide +kernel)) ggX7_unitsTo_X7_wide
set_option maxRecDepth 20000 in
theorem ggX7_unitsTo_X7_space : GoodIn wsX7_unitsTo wsX7_space := goodIn_r _ [23, 24, 25, 4, 26, 14, 15, 16, 17, 18, 19, 27, 28, 29, 30, 10, 31, 32, 33, 34, 35, 36, 37, 38, 39, 40, 41] (by decide +kernel) (by decide +kernel)
set_option maxRecDepth 20000 in
theorem gX7_unitsTo_X7_space : GoodIn wsX7_unitsTo (wsV RX7 55 RX7 yX7_space wsX7_space) := goodIn_app (goodIn_of _ (by decide +kernel)) ggX7_unitsTo_X7_space
theorem dX7_unitsTo_0 : decode cX7_unitsTo 0 = .ok (.iconst 0, 1) := by decide +kernel
theorem dX7_unitsTo_1 : decode cX7_unitsTo 1 = .ok (.istore_n 3, 1) := by decide +kernel
theorem dX7_unitsTo_2 : decode cX7_unitsTo 2 = .ok (.iconst 0, 1) := by decide +kernel
theorem dX7_unitsTo_3 : decode cX7_unitsTo 3 = .ok (.istore 4, 2) := by decide +kernel
theorem dX7_unitsTo_5 : decode cX7_unitsTo 5 = .ok (.iload 4, 2) := by decide +kernel
theorem dX7_unitsTo_7 : decode cX7_unitsTo 7 = .ok (.iload_n 2, 1) := by decide +kernel
theorem dX7_unitsTo_8 : decode cX7_unitsTo 8 = .ok (.if_icmp .ge 43, 3) := by decide +kernel
theorem dX7_unitsTo_11 : decode cX7_unitsTo 11 = .ok (.iload_n 3, 1) := by decide +kernel
theorem dX7_unitsTo_12 : decode cX7_unitsTo 12 = .ok (.aload_n 0, 1) := by decide +kernel
theorem dX7_unitsTo_13 : decode cX7_unitsTo 13 = .ok (.iload_n 1, 1) := by decide +kernel
theorem dX7_unitsTo_14 : decode cX7_unitsTo 14 = .ok (.iload 4, 2) := by decide +kernel
theorem dX7_unitsTo_16 : decode cX7_unitsTo 16 = .ok (.invokevirtual 49, 3) := by decide +kernel
theorem dX7_unitsTo_19 : decode cX7_unitsTo 19 = .ok (.invokestatic 52, 3) := by decide +kernel
theorem dX7_unitsTo_22 : decode cX7_unitsTo 22 = .ok (.aload_n 0, 1) := by decide +kernel
theorem dX7_unitsTo_23 : decode cX7_unitsTo 23 = .ok (.aload_n 0, 1) := by decide +kernel
theorem dX7_unitsTo_24 : decode cX7_unitsTo 24 = .ok (.iload_n 1, 1) := by decide +kernel
theorem dX7_unitsTo_25 : decode cX7_unitsTo 25 = .ok (.iload 4, 2) := by decide +kernel
theorem dX7_unitsTo_27 : decode cX7_unitsTo 27 = .ok (.invokevirtual 49, 3) := by decide +kernel
theorem dX7_unitsTo_30 : decode cX7_unitsTo 30 = .ok (.aload_n 0, 1) := by decide +kernel
theorem dX7_unitsTo_31 : decode cX7_unitsTo 31 = .ok (.iload_n 1, 1) := by decide +kernel
theorem dX7_unitsTo_32 : decode cX7_unitsTo 32 = .ok (.iload 4, 2) := by decide +kernel
theorem dX7_unitsTo_34 : decode cX7_unitsTo 34 = .ok (.iconst 1, 1) := by decide +kernel
theorem dX7_unitsTo_35 : decode cX7_unitsTo 35 = .ok (.iadd, 1) := by decide +kernel
theorem dX7_unitsTo_36 : decode cX7_unitsTo 36 = .ok (.invokevirtual 49, 3) := by decide +kernel
theorem dX7_unitsTo_39 : decode cX7_unitsTo 39 = .ok (.invokevirtual 55, 3) := by decide +kernel
theorem dX7_unitsTo_42 : decode cX7_unitsTo 42 = .ok (.iadd, 1) := by decide +kernel
theorem dX7_unitsTo_43 : decode cX7_unitsTo 43 = .ok (.iadd, 1) := by decide +kernel
theorem dX7_unitsTo_44 : decode cX7_unitsTo 44 = .ok (.istore_n 3, 1) := by decide +kernel
theorem dX7_unitsTo_45 : decode cX7_unitsTo 45 = .ok (.iinc 4 1, 3) := by decide +kernel
theorem dX7_unitsTo_48 : decode cX7_unitsTo 48 = .ok (.goto (-43), 3) := by decide +kernel
theorem dX7_unitsTo_51 : decode cX7_unitsTo 51 = .ok (.iload_n 3, 1) := by decide +kernel
theorem dX7_unitsTo_52 : decode cX7_unitsTo 52 = .ok (.ireturn, 1) := by decide +kernel
set_option maxRecDepth 20000 in
theorem ggX7_units_X7_of : GoodIn wsX7_units wsX7_of := goodIn_r _ [5, 6, 39, 40, 41, 42, 43, 44, 45] (by decide +kernel) (by decide +kernel)
set_option maxRecDepth 20000 in
theorem gX7_units_X7_of : GoodIn wsX7_units (wsV RX7 46 RX7 yX7_of wsX7_of) := goodIn_app (goodIn_of _ (by decide +kernel)) ggX7_units_X7_of
set_option maxRecDepth 20000 in
theorem ggX7_units_X7_unitsTo : GoodIn wsX7_units wsX7_unitsTo := goodIn_r _ [10, 11, 12, 13, 4, 14, 1, 2, 3, 5, 6, 15, 16, 17, 18, 19, 20, 21, 22, 23, 24, 25, 26, 27, 28, 29, 30, 31, 32, 33, 34, 35, 36, 37, 38, 39, 40, 41, 42, 43, 44, 45] (by decide +kernel) (by decide +kernel)
set_option maxRecDepth 20000 in
theorem gX7_units_X7_unitsTo : GoodIn wsX7_units (wsV RX7 58 RX7 yX7_unitsTo wsX7_unitsTo) := goodIn_app (goodIn_of _ (by decide +kernel)) ggX7_units_X7_unitsTo
set_option maxRecDepth 20000 in
theorem ggX7_units_X7_signOf : GoodIn wsX7_units wsX7_signOf := goodIn_r _ [14, 1, 2, 3, 4, 5, 6, 39, 40, 41, 42, 43, 44, 45] (by decide +kernel) (by decide +kernel)
set_option maxRecDepth 20000 in
theorem gX7_units_X7_signOf : GoodIn wsX7_units (wsV RX7 49 RX7 yX7_signOf wsX7_signOf) := goodIn_app (goodIn_of _ (by decide +kernel)) ggX7_units_X7_signOf
set_option maxRecDepth 20000 in
theorem ggX7_units_X7_wide : GoodIn wsX7_units wsX7_wide := goodIn_r _ [17, 18, 19, 4, 20, 21, 22, 23] (by decide +kernel) (by decide +kernel)
set_option maxRecDepth 20000 in
theorem gX7_units_X7_wide : GoodIn wsX7_units (va_wsS RX7 52 yX7_wide wsX7_wide) := goodIn_app (goodIn_of _ (by decide +kernel)) ggX7_units_X7_wide
theorem dX7_units_0 : decode cX7_units 0 = .ok (.aload_n 0, 1) := by decide +kernel
theorem dX7_units_1 : decode cX7_units 1 = .ok (.iload_n 1, 1) := by decide +kernel
theorem dX7_units_2 : decode cX7_units 2 = .ok (.iconst 0, 1) := by decide +kernel
theorem dX7_units_3 : decode cX7_units 3 = .ok (.invokevirtual 46, 3) := by decide +kernel
theorem dX7_units_6 : decode cX7_units 6 = .ok (.iconst 1, 1) := by decide +kernel
theorem dX7_units_7 : decode cX7_units 7 = .ok (.isub, 1) := by decide +kernel
theorem dX7_units_8 : decode cX7_units 8 = .ok (.istore_n 2, 1) := by decide +kernel
theorem dX7_units_9 : decode cX7_units 9 = .ok (.aload_n 0, 1) := by decide +kernel
theorem dX7_units_10 : decode cX7_units 10 = .ok (.iload_n 1, 1) := by decide +kernel
theorem dX7_units_11 : decode cX7_units 11 = .ok (.iload_n 2, 1) := by decide +kernel
theorem dX7_units_12 : decode cX7_units 12 = .ok (.invokevirtual 58, 3) := by decide +kernel
theorem dX7_units_15 : decode cX7_units 15 = .ok (.aload_n 0, 1) := by decide +kernel
theorem dX7_units_16 : decode cX7_units 16 = .ok (.iload_n 1, 1) := by decide +kernel
theorem dX7_units_17 : decode cX7_units 17 = .ok (.iload_n 2, 1) := by decide +kernel
theorem dX7_units_18 : decode cX7_units 18 = .ok (.invokevirtual 49, 3) := by decide +kernel
theorem dX7_units_21 : decode cX7_units 21 = .ok (.invokestatic 52, 3) := by decide +kernel
theorem dX7_units_24 : decode cX7_units 24 = .ok (.iadd, 1) := by decide +kernel
theorem dX7_units_25 : decode cX7_units 25 = .ok (.ireturn, 1) := by decide +kernel
set_option maxRecDepth 20000 in
theorem ggX7_inkOf_X7_of : GoodIn wsX7_inkOf wsX7_of := goodIn_r _ [5, 6, 20, 21, 22, 23, 24, 25, 26] (by decide +kernel) (by decide +kernel)
set_option maxRecDepth 20000 in
theorem gX7_inkOf_X7_of : GoodIn wsX7_inkOf (wsV RX7 46 RX7 yX7_of wsX7_of) := goodIn_app (goodIn_of _ (by decide +kernel)) ggX7_inkOf_X7_of
set_option maxRecDepth 20000 in
theorem ggX7_inkOf_X7_signOf : GoodIn wsX7_inkOf wsX7_signOf := goodIn_r _ [10, 1, 2, 3, 4, 5, 6, 20, 21, 22, 23, 24, 25, 26] (by decide +kernel) (by decide +kernel)
set_option maxRecDepth 20000 in
theorem gX7_inkOf_X7_signOf : GoodIn wsX7_inkOf (wsV RX7 49 RX7 yX7_signOf wsX7_signOf) := goodIn_app (goodIn_of _ (by decide +kernel)) ggX7_inkOf_X7_signOf
set_option maxRecDepth 20000 in
theorem ggX7_inkOf_X7_ink : GoodIn wsX7_inkOf wsX7_ink := goodIn_r _ [13, 14, 15, 4, 16, 17, 18, 19] (by decide +kernel) (by decide +kernel)
set_option maxRecDepth 20000 in
theorem gX7_inkOf_X7_ink : GoodIn wsX7_inkOf (va_wsS RX7 61 yX7_ink wsX7_ink) := goodIn_app (goodIn_of _ (by decide +kernel)) ggX7_inkOf_X7_ink
theorem dX7_inkOf_0 : decode cX7_inkOf 0 = .ok (.iconst 0, 1) := by decide +kernel
theorem dX7_inkOf_1 : decode cX7_inkOf 1 = .ok (.istore_n 2, 1) := by decide +kernel
theorem dX7_inkOf_2 : decode cX7_inkOf 2 = .ok (.iconst 0, 1) := by decide +kernel
theorem dX7_inkOf_3 : decode cX7_inkOf 3 = .ok (.istore_n 3, 1) := by decide +kernel
theorem dX7_inkOf_4 : decode cX7_inkOf 4 = .ok (.iload_n 3, 1) := by decide +kernel
theorem dX7_inkOf_5 : decode cX7_inkOf 5 = .ok (.aload_n 0, 1) := by decide +kernel
theorem dX7_inkOf_6 : decode cX7_inkOf 6 = .ok (.iload_n 1, 1) := by decide +kernel
theorem dX7_inkOf_7 : decode cX7_inkOf 7 = .ok (.iconst 0, 1) := by decide +kernel
theorem dX7_inkOf_8 : decode cX7_inkOf 8 = .ok (.invokevirtual 46, 3) := by decide +kernel
theorem dX7_inkOf_11 : decode cX7_inkOf 11 = .ok (.if_icmp .ge 21, 3) := by decide +kernel
theorem dX7_inkOf_14 : decode cX7_inkOf 14 = .ok (.iload_n 2, 1) := by decide +kernel
theorem dX7_inkOf_15 : decode cX7_inkOf 15 = .ok (.aload_n 0, 1) := by decide +kernel
theorem dX7_inkOf_16 : decode cX7_inkOf 16 = .ok (.iload_n 1, 1) := by decide +kernel
theorem dX7_inkOf_17 : decode cX7_inkOf 17 = .ok (.iload_n 3, 1) := by decide +kernel
theorem dX7_inkOf_18 : decode cX7_inkOf 18 = .ok (.invokevirtual 49, 3) := by decide +kernel
theorem dX7_inkOf_21 : decode cX7_inkOf 21 = .ok (.invokestatic 61, 3) := by decide +kernel
theorem dX7_inkOf_24 : decode cX7_inkOf 24 = .ok (.iadd, 1) := by decide +kernel
theorem dX7_inkOf_25 : decode cX7_inkOf 25 = .ok (.istore_n 2, 1) := by decide +kernel
theorem dX7_inkOf_26 : decode cX7_inkOf 26 = .ok (.iinc 3 1, 3) := by decide +kernel
theorem dX7_inkOf_29 : decode cX7_inkOf 29 = .ok (.goto (-25), 3) := by decide +kernel
theorem dX7_inkOf_32 : decode cX7_inkOf 32 = .ok (.iload_n 2, 1) := by decide +kernel
theorem dX7_inkOf_33 : decode cX7_inkOf 33 = .ok (.ireturn, 1) := by decide +kernel
theorem dX7_columnWide_0 : decode cX7_columnWide 0 = .ok (.iload_n 0, 1) := by decide +kernel
theorem dX7_columnWide_1 : decode cX7_columnWide 1 = .ok (.iconst 2, 1) := by decide +kernel
theorem dX7_columnWide_2 : decode cX7_columnWide 2 = .ok (.iload_n 1, 1) := by decide +kernel
theorem dX7_columnWide_3 : decode cX7_columnWide 3 = .ok (.imul, 1) := by decide +kernel
theorem dX7_columnWide_4 : decode cX7_columnWide 4 = .ok (.isub, 1) := by decide +kernel
theorem dX7_columnWide_5 : decode cX7_columnWide 5 = .ok (.iload_n 2, 1) := by decide +kernel
theorem dX7_columnWide_6 : decode cX7_columnWide 6 = .ok (.idiv, 1) := by decide +kernel
theorem dX7_columnWide_7 : decode cX7_columnWide 7 = .ok (.ireturn, 1) := by decide +kernel
set_option maxRecDepth 20000 in
theorem ggX7_column_X7_columnWide : GoodIn wsX7_column wsX7_columnWide := goodIn_r _ [5] (by decide +kernel) (by decide +kernel)
set_option maxRecDepth 20000 in
theorem gX7_column_X7_columnWide : GoodIn wsX7_column (va_wsS RX7 64 yX7_columnWide wsX7_columnWide) := goodIn_app (goodIn_of _ (by decide +kernel)) ggX7_column_X7_columnWide
theorem dX7_column_0 : decode cX7_column 0 = .ok (.aload_n 0, 1) := by decide +kernel
theorem dX7_column_1 : decode cX7_column 1 = .ok (.getfield 7, 3) := by decide +kernel
theorem dX7_column_4 : decode cX7_column 4 = .ok (.iconst 0, 1) := by decide +kernel
theorem dX7_column_5 : decode cX7_column 5 = .ok (.iaload, 1) := by decide +kernel
theorem dX7_column_6 : decode cX7_column 6 = .ok (.aload_n 0, 1) := by decide +kernel
theorem dX7_column_7 : decode cX7_column 7 = .ok (.getfield 7, 3) := by decide +kernel
theorem dX7_column_10 : decode cX7_column 10 = .ok (.iconst 2, 1) := by decide +kernel
theorem dX7_column_11 : decode cX7_column 11 = .ok (.iaload, 1) := by decide +kernel
theorem dX7_column_12 : decode cX7_column 12 = .ok (.aload_n 0, 1) := by decide +kernel
theorem dX7_column_13 : decode cX7_column 13 = .ok (.getfield 7, 3) := by decide +kernel
theorem dX7_column_16 : decode cX7_column 16 = .ok (.iconst 3, 1) := by decide +kernel
theorem dX7_column_17 : decode cX7_column 17 = .ok (.iaload, 1) := by decide +kernel
theorem dX7_column_18 : decode cX7_column 18 = .ok (.invokestatic 64, 3) := by decide +kernel
theorem dX7_column_21 : decode cX7_column 21 = .ok (.ireturn, 1) := by decide +kernel
set_option maxRecDepth 20000 in
theorem ggX7_greatest_X7_columnWide : GoodIn wsX7_greatest wsX7_columnWide := goodIn_r _ [5] (by decide +kernel) (by decide +kernel)
set_option maxRecDepth 20000 in
theorem gX7_greatest_X7_columnWide : GoodIn wsX7_greatest (va_wsS RX7 64 yX7_columnWide wsX7_columnWide) := goodIn_app (goodIn_of _ (by decide +kernel)) ggX7_greatest_X7_columnWide
theorem dX7_greatest_0 : decode cX7_greatest 0 = .ok (.iconst 0, 1) := by decide +kernel
theorem dX7_greatest_1 : decode cX7_greatest 1 = .ok (.istore 5, 2) := by decide +kernel
theorem dX7_greatest_3 : decode cX7_greatest 3 = .ok (.iconst 1, 1) := by decide +kernel
theorem dX7_greatest_4 : decode cX7_greatest 4 = .ok (.istore 6, 2) := by decide +kernel
theorem dX7_greatest_6 : decode cX7_greatest 6 = .ok (.iload 6, 2) := by decide +kernel
theorem dX7_greatest_8 : decode cX7_greatest 8 = .ok (.bipush 40, 2) := by decide +kernel
theorem dX7_greatest_10 : decode cX7_greatest 10 = .ok (.if_icmp .gt 78, 3) := by decide +kernel
theorem dX7_greatest_13 : decode cX7_greatest 13 = .ok (.iload_n 1, 1) := by decide +kernel
theorem dX7_greatest_14 : decode cX7_greatest 14 = .ok (.iload 6, 2) := by decide +kernel
theorem dX7_greatest_16 : decode cX7_greatest 16 = .ok (.imul, 1) := by decide +kernel
theorem dX7_greatest_17 : decode cX7_greatest 17 = .ok (.iload_n 3, 1) := by decide +kernel
theorem dX7_greatest_18 : decode cX7_greatest 18 = .ok (.aload_n 0, 1) := by decide +kernel
theorem dX7_greatest_19 : decode cX7_greatest 19 = .ok (.getfield 7, 3) := by decide +kernel
theorem dX7_greatest_22 : decode cX7_greatest 22 = .ok (.iconst 2, 1) := by decide +kernel
theorem dX7_greatest_23 : decode cX7_greatest 23 = .ok (.iaload, 1) := by decide +kernel
theorem dX7_greatest_24 : decode cX7_greatest 24 = .ok (.aload_n 0, 1) := by decide +kernel
theorem dX7_greatest_25 : decode cX7_greatest 25 = .ok (.getfield 7, 3) := by decide +kernel
theorem dX7_greatest_28 : decode cX7_greatest 28 = .ok (.iconst 3, 1) := by decide +kernel
theorem dX7_greatest_29 : decode cX7_greatest 29 = .ok (.iaload, 1) := by decide +kernel
theorem dX7_greatest_30 : decode cX7_greatest 30 = .ok (.invokestatic 64, 3) := by decide +kernel
theorem dX7_greatest_33 : decode cX7_greatest 33 = .ok (.if_icmp .gt 28, 3) := by decide +kernel
theorem dX7_greatest_36 : decode cX7_greatest 36 = .ok (.bipush 12, 2) := by decide +kernel
theorem dX7_greatest_38 : decode cX7_greatest 38 = .ok (.iload 6, 2) := by decide +kernel
theorem dX7_greatest_40 : decode cX7_greatest 40 = .ok (.imul, 1) := by decide +kernel
theorem dX7_greatest_41 : decode cX7_greatest 41 = .ok (.iload_n 2, 1) := by decide +kernel
theorem dX7_greatest_42 : decode cX7_greatest 42 = .ok (.imul, 1) := by decide +kernel
theorem dX7_greatest_43 : decode cX7_greatest 43 = .ok (.iload 4, 2) := by decide +kernel
theorem dX7_greatest_45 : decode cX7_greatest 45 = .ok (.iconst 2, 1) := by decide +kernel
theorem dX7_greatest_46 : decode cX7_greatest 46 = .ok (.aload_n 0, 1) := by decide +kernel
theorem dX7_greatest_47 : decode cX7_greatest 47 = .ok (.getfield 7, 3) := by decide +kernel
theorem dX7_greatest_50 : decode cX7_greatest 50 = .ok (.iconst 2, 1) := by decide +kernel
theorem dX7_greatest_51 : decode cX7_greatest 51 = .ok (.iaload, 1) := by decide +kernel
theorem dX7_greatest_52 : decode cX7_greatest 52 = .ok (.imul, 1) := by decide +kernel
theorem dX7_greatest_53 : decode cX7_greatest 53 = .ok (.isub, 1) := by decide +kernel
theorem dX7_greatest_54 : decode cX7_greatest 54 = .ok (.if_icmp .gt 7, 3) := by decide +kernel
theorem dX7_greatest_57 : decode cX7_greatest 57 = .ok (.iconst 1, 1) := by decide +kernel
theorem dX7_greatest_58 : decode cX7_greatest 58 = .ok (.goto 4, 3) := by decide +kernel
theorem dX7_greatest_61 : decode cX7_greatest 61 = .ok (.iconst 0, 1) := by decide +kernel
theorem dX7_greatest_62 : decode cX7_greatest 62 = .ok (.istore 7, 2) := by decide +kernel
theorem dX7_greatest_64 : decode cX7_greatest 64 = .ok (.iload 7, 2) := by decide +kernel
theorem dX7_greatest_66 : decode cX7_greatest 66 = .ok (.ifCond .ne 7, 3) := by decide +kernel
theorem dX7_greatest_69 : decode cX7_greatest 69 = .ok (.iload_n 2, 1) := by decide +kernel
theorem dX7_greatest_70 : decode cX7_greatest 70 = .ok (.ifCond .ne 8, 3) := by decide +kernel
theorem dX7_greatest_73 : decode cX7_greatest 73 = .ok (.iload 6, 2) := by decide +kernel
theorem dX7_greatest_75 : decode cX7_greatest 75 = .ok (.goto 5, 3) := by decide +kernel
theorem dX7_greatest_78 : decode cX7_greatest 78 = .ok (.iload 5, 2) := by decide +kernel
theorem dX7_greatest_80 : decode cX7_greatest 80 = .ok (.istore 5, 2) := by decide +kernel
theorem dX7_greatest_82 : decode cX7_greatest 82 = .ok (.iinc 6 1, 3) := by decide +kernel
theorem dX7_greatest_85 : decode cX7_greatest 85 = .ok (.goto (-79), 3) := by decide +kernel
theorem dX7_greatest_88 : decode cX7_greatest 88 = .ok (.iload 5, 2) := by decide +kernel
theorem dX7_greatest_90 : decode cX7_greatest 90 = .ok (.ireturn, 1) := by decide +kernel
theorem dX7_rowsOf_0 : decode cX7_rowsOf 0 = .ok (.iload_n 1, 1) := by decide +kernel
theorem dX7_rowsOf_1 : decode cX7_rowsOf 1 = .ok (.aload_n 0, 1) := by decide +kernel
theorem dX7_rowsOf_2 : decode cX7_rowsOf 2 = .ok (.getfield 7, 3) := by decide +kernel
theorem dX7_rowsOf_5 : decode cX7_rowsOf 5 = .ok (.iconst 3, 1) := by decide +kernel
theorem dX7_rowsOf_6 : decode cX7_rowsOf 6 = .ok (.iaload, 1) := by decide +kernel
theorem dX7_rowsOf_7 : decode cX7_rowsOf 7 = .ok (.iadd, 1) := by decide +kernel
theorem dX7_rowsOf_8 : decode cX7_rowsOf 8 = .ok (.iconst 1, 1) := by decide +kernel
theorem dX7_rowsOf_9 : decode cX7_rowsOf 9 = .ok (.isub, 1) := by decide +kernel
theorem dX7_rowsOf_10 : decode cX7_rowsOf 10 = .ok (.aload_n 0, 1) := by decide +kernel
theorem dX7_rowsOf_11 : decode cX7_rowsOf 11 = .ok (.getfield 7, 3) := by decide +kernel
theorem dX7_rowsOf_14 : decode cX7_rowsOf 14 = .ok (.iconst 3, 1) := by decide +kernel
theorem dX7_rowsOf_15 : decode cX7_rowsOf 15 = .ok (.iaload, 1) := by decide +kernel
theorem dX7_rowsOf_16 : decode cX7_rowsOf 16 = .ok (.idiv, 1) := by decide +kernel
theorem dX7_rowsOf_17 : decode cX7_rowsOf 17 = .ok (.ireturn, 1) := by decide +kernel
set_option maxRecDepth 20000 in
theorem ggX7_mostUnits_X7_units : GoodIn wsX7_mostUnits wsX7_units := goodIn_r _ [6, 7, 8, 9, 5, 10, 1, 11, 12, 13, 14, 15, 16, 17, 18, 19, 20, 21, 22, 23, 24, 25, 26, 27, 28, 29, 30, 31, 32, 33, 34, 35, 36, 37, 38, 39, 40, 41, 42, 43, 44, 45, 46, 47, 48, 49] (by decide +kernel) (by decide +kernel)
set_option maxRecDepth 20000 in
theorem gX7_mostUnits_X7_units : GoodIn wsX7_mostUnits (wsV RX7 68 RX7 yX7_units wsX7_units) := goodIn_app (goodIn_of _ (by decide +kernel)) ggX7_mostUnits_X7_units
theorem dX7_mostUnits_0 : decode cX7_mostUnits 0 = .ok (.iconst 0, 1) := by decide +kernel
theorem dX7_mostUnits_1 : decode cX7_mostUnits 1 = .ok (.istore_n 2, 1) := by decide +kernel
theorem dX7_mostUnits_2 : decode cX7_mostUnits 2 = .ok (.iconst 0, 1) := by decide +kernel
theorem dX7_mostUnits_3 : decode cX7_mostUnits 3 = .ok (.istore_n 3, 1) := by decide +kernel
theorem dX7_mostUnits_4 : decode cX7_mostUnits 4 = .ok (.iload_n 3, 1) := by decide +kernel
theorem dX7_mostUnits_5 : decode cX7_mostUnits 5 = .ok (.aload_n 0, 1) := by decide +kernel
theorem dX7_mostUnits_6 : decode cX7_mostUnits 6 = .ok (.getfield 7, 3) := by decide +kernel
theorem dX7_mostUnits_9 : decode cX7_mostUnits 9 = .ok (.iconst 4, 1) := by decide +kernel
theorem dX7_mostUnits_10 : decode cX7_mostUnits 10 = .ok (.iaload, 1) := by decide +kernel
theorem dX7_mostUnits_11 : decode cX7_mostUnits 11 = .ok (.if_icmp .ge 38, 3) := by decide +kernel
theorem dX7_mostUnits_14 : decode cX7_mostUnits 14 = .ok (.iload_n 3, 1) := by decide +kernel
theorem dX7_mostUnits_15 : decode cX7_mostUnits 15 = .ok (.iload_n 1, 1) := by decide +kernel
theorem dX7_mostUnits_16 : decode cX7_mostUnits 16 = .ok (.if_icmp .ne 7, 3) := by decide +kernel
theorem dX7_mostUnits_19 : decode cX7_mostUnits 19 = .ok (.iconst 0, 1) := by decide +kernel
theorem dX7_mostUnits_20 : decode cX7_mostUnits 20 = .ok (.goto 8, 3) := by decide +kernel
theorem dX7_mostUnits_23 : decode cX7_mostUnits 23 = .ok (.aload_n 0, 1) := by decide +kernel
theorem dX7_mostUnits_24 : decode cX7_mostUnits 24 = .ok (.iload_n 3, 1) := by decide +kernel
theorem dX7_mostUnits_25 : decode cX7_mostUnits 25 = .ok (.invokevirtual 68, 3) := by decide +kernel
theorem dX7_mostUnits_28 : decode cX7_mostUnits 28 = .ok (.istore 4, 2) := by decide +kernel
theorem dX7_mostUnits_30 : decode cX7_mostUnits 30 = .ok (.iload 4, 2) := by decide +kernel
theorem dX7_mostUnits_32 : decode cX7_mostUnits 32 = .ok (.iload_n 2, 1) := by decide +kernel
theorem dX7_mostUnits_33 : decode cX7_mostUnits 33 = .ok (.if_icmp .le 8, 3) := by decide +kernel
theorem dX7_mostUnits_36 : decode cX7_mostUnits 36 = .ok (.iload 4, 2) := by decide +kernel
theorem dX7_mostUnits_38 : decode cX7_mostUnits 38 = .ok (.goto 4, 3) := by decide +kernel
theorem dX7_mostUnits_41 : decode cX7_mostUnits 41 = .ok (.iload_n 2, 1) := by decide +kernel
theorem dX7_mostUnits_42 : decode cX7_mostUnits 42 = .ok (.istore_n 2, 1) := by decide +kernel
theorem dX7_mostUnits_43 : decode cX7_mostUnits 43 = .ok (.iinc 3 1, 3) := by decide +kernel
theorem dX7_mostUnits_46 : decode cX7_mostUnits 46 = .ok (.goto (-42), 3) := by decide +kernel
theorem dX7_mostUnits_49 : decode cX7_mostUnits 49 = .ok (.iload_n 2, 1) := by decide +kernel
theorem dX7_mostUnits_50 : decode cX7_mostUnits 50 = .ok (.ireturn, 1) := by decide +kernel
set_option maxRecDepth 20000 in
theorem ggX7_free_X7_mostUnits : GoodIn wsX7_free wsX7_mostUnits := goodIn_r _ [6, 1, 7, 8, 9, 5, 10, 11, 12, 13, 14, 15, 16, 17, 18, 19, 20, 21, 22, 23, 24, 25, 26, 27, 28, 29, 30, 31, 32, 33, 34, 35, 36, 37, 38, 39, 40, 41, 42, 43, 44, 45, 46, 58, 59, 60, 61, 62, 63, 64] (by decide +kernel) (by decide +kernel)
set_option maxRecDepth 20000 in
theorem gX7_free_X7_mostUnits : GoodIn wsX7_free (wsV RX7 71 RX7 yX7_mostUnits wsX7_mostUnits) := goodIn_app (goodIn_of _ (by decide +kernel)) ggX7_free_X7_mostUnits
set_option maxRecDepth 20000 in
theorem ggX7_free_X7_rowsOf : GoodIn wsX7_free wsX7_rowsOf := goodIn_r _ [50, 1, 58, 59, 60, 61, 62, 63, 64] (by decide +kernel) (by decide +kernel)
set_option maxRecDepth 20000 in
theorem gX7_free_X7_rowsOf : GoodIn wsX7_free (wsV RX7 74 RX7 yX7_rowsOf wsX7_rowsOf) := goodIn_app (goodIn_of _ (by decide +kernel)) ggX7_free_X7_rowsOf
set_option maxRecDepth 20000 in
theorem ggX7_free_X7_greatest : GoodIn wsX7_free wsX7_greatest := goodIn_r _ [54, 1, 55, 56, 5, 57, 58, 59, 60, 61, 62, 63, 64] (by decide +kernel) (by decide +kernel)
set_option maxRecDepth 20000 in
theorem gX7_free_X7_greatest : GoodIn wsX7_free (wsV RX7 77 RX7 yX7_greatest wsX7_greatest) := goodIn_app (goodIn_of _ (by decide +kernel)) ggX7_free_X7_greatest
theorem dX7_free_0 : decode cX7_free 0 = .ok (.aload_n 0, 1) := by decide +kernel
theorem dX7_free_1 : decode cX7_free 1 = .ok (.aload_n 0, 1) := by decide +kernel
theorem dX7_free_2 : decode cX7_free 2 = .ok (.sipush (-1005), 3) := by decide +kernel
theorem dX7_free_5 : decode cX7_free 5 = .ok (.invokevirtual 71, 3) := by decide +kernel
theorem dX7_free_8 : decode cX7_free 8 = .ok (.aload_n 0, 1) := by decide +kernel
theorem dX7_free_9 : decode cX7_free 9 = .ok (.aload_n 0, 1) := by decide +kernel
theorem dX7_free_10 : decode cX7_free 10 = .ok (.getfield 7, 3) := by decide +kernel
theorem dX7_free_13 : decode cX7_free 13 = .ok (.iconst 4, 1) := by decide +kernel
theorem dX7_free_14 : decode cX7_free 14 = .ok (.iaload, 1) := by decide +kernel
theorem dX7_free_15 : decode cX7_free 15 = .ok (.invokevirtual 74, 3) := by decide +kernel
theorem dX7_free_18 : decode cX7_free 18 = .ok (.iload_n 1, 1) := by decide +kernel
theorem dX7_free_19 : decode cX7_free 19 = .ok (.iload_n 2, 1) := by decide +kernel
theorem dX7_free_20 : decode cX7_free 20 = .ok (.invokevirtual 77, 3) := by decide +kernel
theorem dX7_free_23 : decode cX7_free 23 = .ok (.ireturn, 1) := by decide +kernel
set_option maxRecDepth 20000 in
theorem ggX7_size_X7_engraved : GoodIn wsX7_size wsX7_engraved := goodIn_r _ [6, 1, 7, 8, 9, 5, 10, 66, 67, 68, 69, 70, 71, 72] (by decide +kernel) (by decide +kernel)
set_option maxRecDepth 20000 in
theorem gX7_size_X7_engraved : GoodIn wsX7_size (wsV RX7 81 RX7 yX7_engraved wsX7_engraved) := goodIn_app (goodIn_of _ (by decide +kernel)) ggX7_size_X7_engraved
set_option maxRecDepth 20000 in
theorem ggX7_size_X7_free : GoodIn wsX7_size wsX7_free := goodIn_r _ [14, 1, 15, 16, 17, 5, 18, 19, 20, 21, 22, 7, 8, 9, 10, 23, 24, 25, 26, 27, 28, 29, 30, 31, 32, 33, 34, 35, 36, 37, 38, 39, 40, 41, 42, 43, 44, 45, 46, 47, 48, 49, 50, 51, 52, 53, 54, 55, 56, 57, 58, 59, 60, 61, 62, 63, 64, 65, 66, 67, 68, 69, 70, 71, 72] (by decide +kernel) (by decide +kernel)
set_option maxRecDepth 20000 in
theorem gX7_size_X7_free : GoodIn wsX7_size (wsV RX7 85 RX7 yX7_free wsX7_free) := goodIn_app (goodIn_of _ (by decide +kernel)) ggX7_size_X7_free
theorem dX7_size_0 : decode cX7_size 0 = .ok (.aload_n 0, 1) := by decide +kernel
theorem dX7_size_1 : decode cX7_size 1 = .ok (.invokevirtual 81, 3) := by decide +kernel
theorem dX7_size_4 : decode cX7_size 4 = .ok (.ifCond .le 12, 3) := by decide +kernel
theorem dX7_size_7 : decode cX7_size 7 = .ok (.aload_n 0, 1) := by decide +kernel
theorem dX7_size_8 : decode cX7_size 8 = .ok (.getfield 7, 3) := by decide +kernel
theorem dX7_size_11 : decode cX7_size 11 = .ok (.iconst 5, 1) := by decide +kernel
theorem dX7_size_12 : decode cX7_size 12 = .ok (.iaload, 1) := by decide +kernel
theorem dX7_size_13 : decode cX7_size 13 = .ok (.goto 19, 3) := by decide +kernel
theorem dX7_size_16 : decode cX7_size 16 = .ok (.aload_n 0, 1) := by decide +kernel
theorem dX7_size_17 : decode cX7_size 17 = .ok (.aload_n 0, 1) := by decide +kernel
theorem dX7_size_18 : decode cX7_size 18 = .ok (.getfield 7, 3) := by decide +kernel
theorem dX7_size_21 : decode cX7_size 21 = .ok (.iconst 0, 1) := by decide +kernel
theorem dX7_size_22 : decode cX7_size 22 = .ok (.iaload, 1) := by decide +kernel
theorem dX7_size_23 : decode cX7_size 23 = .ok (.aload_n 0, 1) := by decide +kernel
theorem dX7_size_24 : decode cX7_size 24 = .ok (.getfield 7, 3) := by decide +kernel
theorem dX7_size_27 : decode cX7_size 27 = .ok (.iconst 1, 1) := by decide +kernel
theorem dX7_size_28 : decode cX7_size 28 = .ok (.iaload, 1) := by decide +kernel
theorem dX7_size_29 : decode cX7_size 29 = .ok (.invokevirtual 85, 3) := by decide +kernel
theorem dX7_size_32 : decode cX7_size 32 = .ok (.ireturn, 1) := by decide +kernel
theorem dX7_rowOf_0 : decode cX7_rowOf 0 = .ok (.iload_n 1, 1) := by decide +kernel
theorem dX7_rowOf_1 : decode cX7_rowOf 1 = .ok (.aload_n 0, 1) := by decide +kernel
theorem dX7_rowOf_2 : decode cX7_rowOf 2 = .ok (.getfield 7, 3) := by decide +kernel
theorem dX7_rowOf_5 : decode cX7_rowOf 5 = .ok (.iconst 3, 1) := by decide +kernel
theorem dX7_rowOf_6 : decode cX7_rowOf 6 = .ok (.iaload, 1) := by decide +kernel
theorem dX7_rowOf_7 : decode cX7_rowOf 7 = .ok (.idiv, 1) := by decide +kernel
theorem dX7_rowOf_8 : decode cX7_rowOf 8 = .ok (.ireturn, 1) := by decide +kernel
set_option maxRecDepth 20000 in
theorem ggX7_columnBegin_X7_column : GoodIn wsX7_columnBegin wsX7_column := goodIn_r _ [6, 1, 7, 8, 5, 9, 10, 11, 12, 13, 14, 15, 16] (by decide +kernel) (by decide +kernel)
set_option maxRecDepth 20000 in
theorem gX7_columnBegin_X7_column : GoodIn wsX7_columnBegin (wsV RX7 88 RX7 yX7_column wsX7_column) := goodIn_app (goodIn_of _ (by decide +kernel)) ggX7_columnBegin_X7_column
theorem dX7_columnBegin_0 : decode cX7_columnBegin 0 = .ok (.aload_n 0, 1) := by decide +kernel
theorem dX7_columnBegin_1 : decode cX7_columnBegin 1 = .ok (.getfield 7, 3) := by decide +kernel
theorem dX7_columnBegin_4 : decode cX7_columnBegin 4 = .ok (.iconst 2, 1) := by decide +kernel
theorem dX7_columnBegin_5 : decode cX7_columnBegin 5 = .ok (.iaload, 1) := by decide +kernel
theorem dX7_columnBegin_6 : decode cX7_columnBegin 6 = .ok (.iload_n 1, 1) := by decide +kernel
theorem dX7_columnBegin_7 : decode cX7_columnBegin 7 = .ok (.aload_n 0, 1) := by decide +kernel
theorem dX7_columnBegin_8 : decode cX7_columnBegin 8 = .ok (.getfield 7, 3) := by decide +kernel
theorem dX7_columnBegin_11 : decode cX7_columnBegin 11 = .ok (.iconst 3, 1) := by decide +kernel
theorem dX7_columnBegin_12 : decode cX7_columnBegin 12 = .ok (.iaload, 1) := by decide +kernel
theorem dX7_columnBegin_13 : decode cX7_columnBegin 13 = .ok (.irem, 1) := by decide +kernel
theorem dX7_columnBegin_14 : decode cX7_columnBegin 14 = .ok (.aload_n 0, 1) := by decide +kernel
theorem dX7_columnBegin_15 : decode cX7_columnBegin 15 = .ok (.invokevirtual 88, 3) := by decide +kernel
theorem dX7_columnBegin_18 : decode cX7_columnBegin 18 = .ok (.imul, 1) := by decide +kernel
theorem dX7_columnBegin_19 : decode cX7_columnBegin 19 = .ok (.iadd, 1) := by decide +kernel
theorem dX7_columnBegin_20 : decode cX7_columnBegin 20 = .ok (.ireturn, 1) := by decide +kernel
set_option maxRecDepth 20000 in
theorem ggX7_fits_X7_units : GoodIn wsX7_fits wsX7_units := goodIn_r _ [6, 7, 8, 9, 5, 10, 1, 11, 12, 13, 14, 15, 16, 17, 18, 19, 20, 21, 22, 23, 24, 25, 26, 27, 28, 29, 30, 31, 32, 33, 34, 35, 36, 37, 38, 39, 40, 41, 42, 54, 55, 56, 57, 58, 59, 60] (by decide +kernel) (by decide +kernel)
set_option maxRecDepth 20000 in
theorem gX7_fits_X7_units : GoodIn wsX7_fits (wsV RX7 68 RX7 yX7_units wsX7_units) := goodIn_app (goodIn_of _ (by decide +kernel)) ggX7_fits_X7_units
set_option maxRecDepth 20000 in
theorem ggX7_fits_X7_column : GoodIn wsX7_fits wsX7_column := goodIn_r _ [46, 1, 47, 48, 5, 49, 54, 55, 56, 57, 58, 59, 60] (by decide +kernel) (by decide +kernel)
set_option maxRecDepth 20000 in
theorem gX7_fits_X7_column : GoodIn wsX7_fits (wsV RX7 88 RX7 yX7_column wsX7_column) := goodIn_app (goodIn_of _ (by decide +kernel)) ggX7_fits_X7_column
set_option maxRecDepth 20000 in
theorem ggX7_fits_X7_rowOf : GoodIn wsX7_fits wsX7_rowOf := goodIn_r _ [53, 1, 54, 55, 56, 57, 58, 59, 60] (by decide +kernel) (by decide +kernel)
set_option maxRecDepth 20000 in
theorem gX7_fits_X7_rowOf : GoodIn wsX7_fits (wsV RX7 91 RX7 yX7_rowOf wsX7_rowOf) := goodIn_app (goodIn_of _ (by decide +kernel)) ggX7_fits_X7_rowOf
theorem dX7_fits_0 : decode cX7_fits 0 = .ok (.iload_n 2, 1) := by decide +kernel
theorem dX7_fits_1 : decode cX7_fits 1 = .ok (.ifCond .le 51, 3) := by decide +kernel
theorem dX7_fits_4 : decode cX7_fits 4 = .ok (.aload_n 0, 1) := by decide +kernel
theorem dX7_fits_5 : decode cX7_fits 5 = .ok (.iload_n 1, 1) := by decide +kernel
theorem dX7_fits_6 : decode cX7_fits 6 = .ok (.invokevirtual 68, 3) := by decide +kernel
theorem dX7_fits_9 : decode cX7_fits 9 = .ok (.iload_n 2, 1) := by decide +kernel
theorem dX7_fits_10 : decode cX7_fits 10 = .ok (.imul, 1) := by decide +kernel
theorem dX7_fits_11 : decode cX7_fits 11 = .ok (.aload_n 0, 1) := by decide +kernel
theorem dX7_fits_12 : decode cX7_fits 12 = .ok (.invokevirtual 88, 3) := by decide +kernel
theorem dX7_fits_15 : decode cX7_fits 15 = .ok (.if_icmp .gt 37, 3) := by decide +kernel
theorem dX7_fits_18 : decode cX7_fits 18 = .ok (.bipush 12, 2) := by decide +kernel
theorem dX7_fits_20 : decode cX7_fits 20 = .ok (.iload_n 2, 1) := by decide +kernel
theorem dX7_fits_21 : decode cX7_fits 21 = .ok (.imul, 1) := by decide +kernel
theorem dX7_fits_22 : decode cX7_fits 22 = .ok (.aload_n 0, 1) := by decide +kernel
theorem dX7_fits_23 : decode cX7_fits 23 = .ok (.iload_n 1, 1) := by decide +kernel
theorem dX7_fits_24 : decode cX7_fits 24 = .ok (.invokevirtual 91, 3) := by decide +kernel
theorem dX7_fits_27 : decode cX7_fits 27 = .ok (.iconst 1, 1) := by decide +kernel
theorem dX7_fits_28 : decode cX7_fits 28 = .ok (.iadd, 1) := by decide +kernel
theorem dX7_fits_29 : decode cX7_fits 29 = .ok (.imul, 1) := by decide +kernel
theorem dX7_fits_30 : decode cX7_fits 30 = .ok (.aload_n 0, 1) := by decide +kernel
theorem dX7_fits_31 : decode cX7_fits 31 = .ok (.getfield 7, 3) := by decide +kernel
theorem dX7_fits_34 : decode cX7_fits 34 = .ok (.iconst 1, 1) := by decide +kernel
theorem dX7_fits_35 : decode cX7_fits 35 = .ok (.iaload, 1) := by decide +kernel
theorem dX7_fits_36 : decode cX7_fits 36 = .ok (.iconst 2, 1) := by decide +kernel
theorem dX7_fits_37 : decode cX7_fits 37 = .ok (.aload_n 0, 1) := by decide +kernel
theorem dX7_fits_38 : decode cX7_fits 38 = .ok (.getfield 7, 3) := by decide +kernel
theorem dX7_fits_41 : decode cX7_fits 41 = .ok (.iconst 2, 1) := by decide +kernel
theorem dX7_fits_42 : decode cX7_fits 42 = .ok (.iaload, 1) := by decide +kernel
theorem dX7_fits_43 : decode cX7_fits 43 = .ok (.imul, 1) := by decide +kernel
theorem dX7_fits_44 : decode cX7_fits 44 = .ok (.isub, 1) := by decide +kernel
theorem dX7_fits_45 : decode cX7_fits 45 = .ok (.if_icmp .gt 7, 3) := by decide +kernel
theorem dX7_fits_48 : decode cX7_fits 48 = .ok (.iconst 1, 1) := by decide +kernel
theorem dX7_fits_49 : decode cX7_fits 49 = .ok (.goto 4, 3) := by decide +kernel
theorem dX7_fits_52 : decode cX7_fits 52 = .ok (.iconst 0, 1) := by decide +kernel
theorem dX7_fits_53 : decode cX7_fits 53 = .ok (.ireturn, 1) := by decide +kernel
theorem dX7_down_0 : decode cX7_down 0 = .ok (.iload_n 0, 1) := by decide +kernel
theorem dX7_down_1 : decode cX7_down 1 = .ok (.iload_n 1, 1) := by decide +kernel
theorem dX7_down_2 : decode cX7_down 2 = .ok (.idiv, 1) := by decide +kernel
theorem dX7_down_3 : decode cX7_down 3 = .ok (.istore_n 2, 1) := by decide +kernel
theorem dX7_down_4 : decode cX7_down 4 = .ok (.iload_n 2, 1) := by decide +kernel
theorem dX7_down_5 : decode cX7_down 5 = .ok (.iload_n 1, 1) := by decide +kernel
theorem dX7_down_6 : decode cX7_down 6 = .ok (.imul, 1) := by decide +kernel
theorem dX7_down_7 : decode cX7_down 7 = .ok (.iload_n 0, 1) := by decide +kernel
theorem dX7_down_8 : decode cX7_down 8 = .ok (.if_icmp .le 9, 3) := by decide +kernel
theorem dX7_down_11 : decode cX7_down 11 = .ok (.iload_n 2, 1) := by decide +kernel
theorem dX7_down_12 : decode cX7_down 12 = .ok (.iconst 1, 1) := by decide +kernel
theorem dX7_down_13 : decode cX7_down 13 = .ok (.isub, 1) := by decide +kernel
theorem dX7_down_14 : decode cX7_down 14 = .ok (.goto 4, 3) := by decide +kernel
theorem dX7_down_17 : decode cX7_down 17 = .ok (.iload_n 2, 1) := by decide +kernel
theorem dX7_down_18 : decode cX7_down 18 = .ok (.ireturn, 1) := by decide +kernel
set_option maxRecDepth 20000 in
theorem ggX7_begin_X7_inkOf : GoodIn wsX7_begin wsX7_inkOf := goodIn_r _ [5, 6, 7, 8, 4, 9, 10, 11, 12, 13, 14, 15, 16, 17, 18, 19, 20, 21, 22, 23, 64, 65, 66, 67, 68, 69, 70] (by decide +kernel) (by decide +kernel)
set_option maxRecDepth 20000 in
theorem gX7_begin_X7_inkOf : GoodIn wsX7_begin (wsV RX7 94 RX7 yX7_inkOf wsX7_inkOf) := goodIn_app (goodIn_of _ (by decide +kernel)) ggX7_begin_X7_inkOf
set_option maxRecDepth 20000 in
theorem ggX7_begin_X7_of : GoodIn wsX7_begin wsX7_of := goodIn_r _ [9, 10, 64, 65, 66, 67, 68, 69, 70] (by decide +kernel) (by decide +kernel)
set_option maxRecDepth 20000 in
theorem gX7_begin_X7_of : GoodIn wsX7_begin (wsV RX7 46 RX7 yX7_of wsX7_of) := goodIn_app (goodIn_of _ (by decide +kernel)) ggX7_begin_X7_of
set_option maxRecDepth 20000 in
theorem ggX7_begin_X7_signOf : GoodIn wsX7_begin wsX7_signOf := goodIn_r _ [14, 6, 7, 8, 4, 9, 10, 64, 65, 66, 67, 68, 69, 70] (by decide +kernel) (by decide +kernel)
set_option maxRecDepth 20000 in
theorem gX7_begin_X7_signOf : GoodIn wsX7_begin (wsV RX7 49 RX7 yX7_signOf wsX7_signOf) := goodIn_app (goodIn_of _ (by decide +kernel)) ggX7_begin_X7_signOf
set_option maxRecDepth 20000 in
theorem ggX7_begin_X7_ink : GoodIn wsX7_begin wsX7_ink := goodIn_r _ [17, 18, 19, 4, 20, 21, 22, 23] (by decide +kernel) (by decide +kernel)
set_option maxRecDepth 20000 in
theorem gX7_begin_X7_ink : GoodIn wsX7_begin (va_wsS RX7 61 yX7_ink wsX7_ink) := goodIn_app (goodIn_of _ (by decide +kernel)) ggX7_begin_X7_ink
set_option maxRecDepth 20000 in
theorem ggX7_begin_X7_unitsTo : GoodIn wsX7_begin wsX7_unitsTo := goodIn_r _ [27, 11, 12, 13, 4, 14, 6, 7, 8, 9, 10, 28, 29, 30, 18, 19, 20, 21, 22, 23, 31, 32, 33, 34, 35, 36, 37, 38, 39, 40, 41, 42, 43, 44, 45, 64, 65, 66, 67, 68, 69, 70] (by decide +kernel) (by decide +kernel)
set_option maxRecDepth 20000 in
theorem gX7_begin_X7_unitsTo : GoodIn wsX7_begin (wsV RX7 58 RX7 yX7_unitsTo wsX7_unitsTo) := goodIn_app (goodIn_of _ (by decide +kernel)) ggX7_begin_X7_unitsTo
set_option maxRecDepth 20000 in
theorem ggX7_begin_X7_wide : GoodIn wsX7_begin wsX7_wide := goodIn_r _ [30, 18, 19, 4, 20, 21, 22, 23] (by decide +kernel) (by decide +kernel)
set_option maxRecDepth 20000 in
theorem gX7_begin_X7_wide : GoodIn wsX7_begin (va_wsS RX7 52 yX7_wide wsX7_wide) := goodIn_app (goodIn_of _ (by decide +kernel)) ggX7_begin_X7_wide
set_option maxRecDepth 20000 in
theorem ggX7_begin_X7_columnBegin : GoodIn wsX7_begin wsX7_columnBegin := goodIn_r _ [49, 10, 50, 51, 52, 4, 53, 54, 55, 56, 64, 65, 66, 67, 68, 69, 70] (by decide +kernel) (by decide +kernel)
set_option maxRecDepth 20000 in
theorem gX7_begin_X7_columnBegin : GoodIn wsX7_begin (wsV RX7 97 RX7 yX7_columnBegin wsX7_columnBegin) := goodIn_app (goodIn_of _ (by decide +kernel)) ggX7_begin_X7_columnBegin
set_option maxRecDepth 20000 in
theorem ggX7_begin_X7_column : GoodIn wsX7_begin wsX7_column := goodIn_r _ [53, 10, 54, 55, 4, 56, 64, 65, 66, 67, 68, 69, 70] (by decide +kernel) (by decide +kernel)
set_option maxRecDepth 20000 in
theorem gX7_begin_X7_column : GoodIn wsX7_begin (wsV RX7 88 RX7 yX7_column wsX7_column) := goodIn_app (goodIn_of _ (by decide +kernel)) ggX7_begin_X7_column
set_option maxRecDepth 20000 in
theorem ggX7_begin_X7_down : GoodIn wsX7_begin wsX7_down := goodIn_r _ [59] (by decide +kernel) (by decide +kernel)
set_option maxRecDepth 20000 in
theorem gX7_begin_X7_down : GoodIn wsX7_begin (va_wsS RX7 100 yX7_down wsX7_down) := goodIn_app (goodIn_of _ (by decide +kernel)) ggX7_begin_X7_down
set_option maxRecDepth 20000 in
theorem ggX7_begin_X7_units : GoodIn wsX7_begin wsX7_units := goodIn_r _ [63, 6, 7, 8, 4, 9, 10, 24, 25, 26, 27, 11, 12, 13, 14, 28, 29, 30, 18, 19, 20, 21, 22, 23, 31, 32, 33, 34, 35, 36, 37, 38, 39, 40, 41, 42, 43, 44, 45, 64, 65, 66, 67, 68, 69, 70] (by decide +kernel) (by decide +kernel)
set_option maxRecDepth 20000 in
theorem gX7_begin_X7_units : GoodIn wsX7_begin (wsV RX7 68 RX7 yX7_units wsX7_units) := goodIn_app (goodIn_of _ (by decide +kernel)) ggX7_begin_X7_units
theorem dX7_begin_0 : decode cX7_begin 0 = .ok (.aload_n 0, 1) := by decide +kernel
theorem dX7_begin_1 : decode cX7_begin 1 = .ok (.iload_n 1, 1) := by decide +kernel
theorem dX7_begin_2 : decode cX7_begin 2 = .ok (.invokevirtual 94, 3) := by decide +kernel
theorem dX7_begin_5 : decode cX7_begin 5 = .ok (.istore_n 3, 1) := by decide +kernel
theorem dX7_begin_6 : decode cX7_begin 6 = .ok (.iconst 0, 1) := by decide +kernel
theorem dX7_begin_7 : decode cX7_begin 7 = .ok (.istore 4, 2) := by decide +kernel
theorem dX7_begin_9 : decode cX7_begin 9 = .ok (.iconst 0, 1) := by decide +kernel
theorem dX7_begin_10 : decode cX7_begin 10 = .ok (.istore 5, 2) := by decide +kernel
theorem dX7_begin_12 : decode cX7_begin 12 = .ok (.iload 5, 2) := by decide +kernel
theorem dX7_begin_14 : decode cX7_begin 14 = .ok (.aload_n 0, 1) := by decide +kernel
theorem dX7_begin_15 : decode cX7_begin 15 = .ok (.iload_n 1, 1) := by decide +kernel
theorem dX7_begin_16 : decode cX7_begin 16 = .ok (.iconst 0, 1) := by decide +kernel
theorem dX7_begin_17 : decode cX7_begin 17 = .ok (.invokevirtual 46, 3) := by decide +kernel
theorem dX7_begin_20 : decode cX7_begin 20 = .ok (.if_icmp .ge 45, 3) := by decide +kernel
theorem dX7_begin_23 : decode cX7_begin 23 = .ok (.iload 4, 2) := by decide +kernel
theorem dX7_begin_25 : decode cX7_begin 25 = .ok (.aload_n 0, 1) := by decide +kernel
theorem dX7_begin_26 : decode cX7_begin 26 = .ok (.iload_n 1, 1) := by decide +kernel
theorem dX7_begin_27 : decode cX7_begin 27 = .ok (.iload 5, 2) := by decide +kernel
theorem dX7_begin_29 : decode cX7_begin 29 = .ok (.invokevirtual 49, 3) := by decide +kernel
theorem dX7_begin_32 : decode cX7_begin 32 = .ok (.invokestatic 61, 3) := by decide +kernel
theorem dX7_begin_35 : decode cX7_begin 35 = .ok (.iconst 2, 1) := by decide +kernel
theorem dX7_begin_36 : decode cX7_begin 36 = .ok (.aload_n 0, 1) := by decide +kernel
theorem dX7_begin_37 : decode cX7_begin 37 = .ok (.iload_n 1, 1) := by decide +kernel
theorem dX7_begin_38 : decode cX7_begin 38 = .ok (.iload 5, 2) := by decide +kernel
theorem dX7_begin_40 : decode cX7_begin 40 = .ok (.invokevirtual 58, 3) := by decide +kernel
theorem dX7_begin_43 : decode cX7_begin 43 = .ok (.imul, 1) := by decide +kernel
theorem dX7_begin_44 : decode cX7_begin 44 = .ok (.aload_n 0, 1) := by decide +kernel
theorem dX7_begin_45 : decode cX7_begin 45 = .ok (.iload_n 1, 1) := by decide +kernel
theorem dX7_begin_46 : decode cX7_begin 46 = .ok (.iload 5, 2) := by decide +kernel
theorem dX7_begin_48 : decode cX7_begin 48 = .ok (.invokevirtual 49, 3) := by decide +kernel
theorem dX7_begin_51 : decode cX7_begin 51 = .ok (.invokestatic 52, 3) := by decide +kernel
theorem dX7_begin_54 : decode cX7_begin 54 = .ok (.iadd, 1) := by decide +kernel
theorem dX7_begin_55 : decode cX7_begin 55 = .ok (.imul, 1) := by decide +kernel
theorem dX7_begin_56 : decode cX7_begin 56 = .ok (.iadd, 1) := by decide +kernel
theorem dX7_begin_57 : decode cX7_begin 57 = .ok (.istore 4, 2) := by decide +kernel
theorem dX7_begin_59 : decode cX7_begin 59 = .ok (.iinc 5 1, 3) := by decide +kernel
theorem dX7_begin_62 : decode cX7_begin 62 = .ok (.goto (-50), 3) := by decide +kernel
theorem dX7_begin_65 : decode cX7_begin 65 = .ok (.aload_n 0, 1) := by decide +kernel
theorem dX7_begin_66 : decode cX7_begin 66 = .ok (.iload_n 1, 1) := by decide +kernel
theorem dX7_begin_67 : decode cX7_begin 67 = .ok (.invokevirtual 97, 3) := by decide +kernel
theorem dX7_begin_70 : decode cX7_begin 70 = .ok (.istore 5, 2) := by decide +kernel
theorem dX7_begin_72 : decode cX7_begin 72 = .ok (.iload_n 3, 1) := by decide +kernel
theorem dX7_begin_73 : decode cX7_begin 73 = .ok (.iconst 2, 1) := by decide +kernel
theorem dX7_begin_74 : decode cX7_begin 74 = .ok (.iload 5, 2) := by decide +kernel
theorem dX7_begin_76 : decode cX7_begin 76 = .ok (.imul, 1) := by decide +kernel
theorem dX7_begin_77 : decode cX7_begin 77 = .ok (.aload_n 0, 1) := by decide +kernel
theorem dX7_begin_78 : decode cX7_begin 78 = .ok (.invokevirtual 88, 3) := by decide +kernel
theorem dX7_begin_81 : decode cX7_begin 81 = .ok (.iadd, 1) := by decide +kernel
theorem dX7_begin_82 : decode cX7_begin 82 = .ok (.imul, 1) := by decide +kernel
theorem dX7_begin_83 : decode cX7_begin 83 = .ok (.iload_n 2, 1) := by decide +kernel
theorem dX7_begin_84 : decode cX7_begin 84 = .ok (.iload 4, 2) := by decide +kernel
theorem dX7_begin_86 : decode cX7_begin 86 = .ok (.imul, 1) := by decide +kernel
theorem dX7_begin_87 : decode cX7_begin 87 = .ok (.isub, 1) := by decide +kernel
theorem dX7_begin_88 : decode cX7_begin 88 = .ok (.iconst 2, 1) := by decide +kernel
theorem dX7_begin_89 : decode cX7_begin 89 = .ok (.iload_n 3, 1) := by decide +kernel
theorem dX7_begin_90 : decode cX7_begin 90 = .ok (.imul, 1) := by decide +kernel
theorem dX7_begin_91 : decode cX7_begin 91 = .ok (.invokestatic 100, 3) := by decide +kernel
theorem dX7_begin_94 : decode cX7_begin 94 = .ok (.istore 6, 2) := by decide +kernel
theorem dX7_begin_96 : decode cX7_begin 96 = .ok (.iload 5, 2) := by decide +kernel
theorem dX7_begin_98 : decode cX7_begin 98 = .ok (.aload_n 0, 1) := by decide +kernel
theorem dX7_begin_99 : decode cX7_begin 99 = .ok (.invokevirtual 88, 3) := by decide +kernel
theorem dX7_begin_102 : decode cX7_begin 102 = .ok (.iadd, 1) := by decide +kernel
theorem dX7_begin_103 : decode cX7_begin 103 = .ok (.aload_n 0, 1) := by decide +kernel
theorem dX7_begin_104 : decode cX7_begin 104 = .ok (.iload_n 1, 1) := by decide +kernel
theorem dX7_begin_105 : decode cX7_begin 105 = .ok (.invokevirtual 68, 3) := by decide +kernel
theorem dX7_begin_108 : decode cX7_begin 108 = .ok (.iload_n 2, 1) := by decide +kernel
theorem dX7_begin_109 : decode cX7_begin 109 = .ok (.imul, 1) := by decide +kernel
theorem dX7_begin_110 : decode cX7_begin 110 = .ok (.isub, 1) := by decide +kernel
theorem dX7_begin_111 : decode cX7_begin 111 = .ok (.istore 7, 2) := by decide +kernel
theorem dX7_begin_113 : decode cX7_begin 113 = .ok (.iload 6, 2) := by decide +kernel
theorem dX7_begin_115 : decode cX7_begin 115 = .ok (.iload 7, 2) := by decide +kernel
theorem dX7_begin_117 : decode cX7_begin 117 = .ok (.if_icmp .le 8, 3) := by decide +kernel
theorem dX7_begin_120 : decode cX7_begin 120 = .ok (.iload 7, 2) := by decide +kernel
theorem dX7_begin_122 : decode cX7_begin 122 = .ok (.goto 5, 3) := by decide +kernel
theorem dX7_begin_125 : decode cX7_begin 125 = .ok (.iload 6, 2) := by decide +kernel
theorem dX7_begin_127 : decode cX7_begin 127 = .ok (.istore 6, 2) := by decide +kernel
theorem dX7_begin_129 : decode cX7_begin 129 = .ok (.iload 6, 2) := by decide +kernel
theorem dX7_begin_131 : decode cX7_begin 131 = .ok (.iload 5, 2) := by decide +kernel
theorem dX7_begin_133 : decode cX7_begin 133 = .ok (.if_icmp .ge 8, 3) := by decide +kernel
theorem dX7_begin_136 : decode cX7_begin 136 = .ok (.iload 5, 2) := by decide +kernel
theorem dX7_begin_138 : decode cX7_begin 138 = .ok (.goto 5, 3) := by decide +kernel
theorem dX7_begin_141 : decode cX7_begin 141 = .ok (.iload 6, 2) := by decide +kernel
theorem dX7_begin_143 : decode cX7_begin 143 = .ok (.ireturn, 1) := by decide +kernel
set_option maxRecDepth 20000 in
theorem ggX7_recut_X7_in : GoodIn wsX7_recut wsX7_in := goodIn_r _ [5] (by decide +kernel) (by decide +kernel)
set_option maxRecDepth 20000 in
theorem gX7_recut_X7_in : GoodIn wsX7_recut (va_wsS RX7 27 yX7_in wsX7_in) := goodIn_app (goodIn_of _ (by decide +kernel)) ggX7_recut_X7_in
set_option maxRecDepth 20000 in
theorem ggX7_recut_X7_record : GoodIn wsX7_recut wsX7_record := goodIn_r _ [9, 10, 11, 1, 20, 21, 22, 23, 24, 25, 26] (by decide +kernel) (by decide +kernel)
set_option maxRecDepth 20000 in
theorem gX7_recut_X7_record : GoodIn wsX7_recut (wsV RX7 103 RX7 yX7_record wsX7_record) := goodIn_app (goodIn_of _ (by decide +kernel)) ggX7_recut_X7_record
set_option maxRecDepth 20000 in
theorem ggX7_recut_X7_engraved : GoodIn wsX7_recut wsX7_engraved := goodIn_r _ [15, 1, 16, 17, 18, 4, 19, 20, 21, 22, 23, 24, 25, 26] (by decide +kernel) (by decide +kernel)
set_option maxRecDepth 20000 in
theorem gX7_recut_X7_engraved : GoodIn wsX7_recut (wsV RX7 81 RX7 yX7_engraved wsX7_engraved) := goodIn_app (goodIn_of _ (by decide +kernel)) ggX7_recut_X7_engraved
theorem dX7_recut_0 : decode cX7_recut 0 = .ok (.iload_n 1, 1) := by decide +kernel
theorem dX7_recut_1 : decode cX7_recut 1 = .ok (.sipush 300, 3) := by decide +kernel
theorem dX7_recut_4 : decode cX7_recut 4 = .ok (.sipush 6000, 3) := by decide +kernel
theorem dX7_recut_7 : decode cX7_recut 7 = .ok (.invokestatic 27, 3) := by decide +kernel
theorem dX7_recut_10 : decode cX7_recut 10 = .ok (.ifCond .eq 15, 3) := by decide +kernel
theorem dX7_recut_13 : decode cX7_recut 13 = .ok (.iload_n 2, 1) := by decide +kernel
theorem dX7_recut_14 : decode cX7_recut 14 = .ok (.bipush 100, 2) := by decide +kernel
theorem dX7_recut_16 : decode cX7_recut 16 = .ok (.sipush 3000, 3) := by decide +kernel
theorem dX7_recut_19 : decode cX7_recut 19 = .ok (.invokestatic 27, 3) := by decide +kernel
theorem dX7_recut_22 : decode cX7_recut 22 = .ok (.ifCond .ne 7, 3) := by decide +kernel
theorem dX7_recut_25 : decode cX7_recut 25 = .ok (.sipush (-1002), 3) := by decide +kernel
theorem dX7_recut_28 : decode cX7_recut 28 = .ok (.ireturn, 1) := by decide +kernel
theorem dX7_recut_29 : decode cX7_recut 29 = .ok (.aload_n 0, 1) := by decide +kernel
theorem dX7_recut_30 : decode cX7_recut 30 = .ok (.invokevirtual 103, 3) := by decide +kernel
theorem dX7_recut_33 : decode cX7_recut 33 = .ok (.aload_n 0, 1) := by decide +kernel
theorem dX7_recut_34 : decode cX7_recut 34 = .ok (.invokevirtual 81, 3) := by decide +kernel
theorem dX7_recut_37 : decode cX7_recut 37 = .ok (.istore_n 3, 1) := by decide +kernel
theorem dX7_recut_38 : decode cX7_recut 38 = .ok (.aload_n 0, 1) := by decide +kernel
theorem dX7_recut_39 : decode cX7_recut 39 = .ok (.getfield 7, 3) := by decide +kernel
theorem dX7_recut_42 : decode cX7_recut 42 = .ok (.iconst 0, 1) := by decide +kernel
theorem dX7_recut_43 : decode cX7_recut 43 = .ok (.iload_n 1, 1) := by decide +kernel
theorem dX7_recut_44 : decode cX7_recut 44 = .ok (.iastore, 1) := by decide +kernel
theorem dX7_recut_45 : decode cX7_recut 45 = .ok (.aload_n 0, 1) := by decide +kernel
theorem dX7_recut_46 : decode cX7_recut 46 = .ok (.getfield 7, 3) := by decide +kernel
theorem dX7_recut_49 : decode cX7_recut 49 = .ok (.iconst 1, 1) := by decide +kernel
theorem dX7_recut_50 : decode cX7_recut 50 = .ok (.iload_n 2, 1) := by decide +kernel
theorem dX7_recut_51 : decode cX7_recut 51 = .ok (.iastore, 1) := by decide +kernel
theorem dX7_recut_52 : decode cX7_recut 52 = .ok (.iconst 0, 1) := by decide +kernel
theorem dX7_recut_53 : decode cX7_recut 53 = .ok (.istore 4, 2) := by decide +kernel
theorem dX7_recut_55 : decode cX7_recut 55 = .ok (.iload 4, 2) := by decide +kernel
theorem dX7_recut_57 : decode cX7_recut 57 = .ok (.aload_n 0, 1) := by decide +kernel
theorem dX7_recut_58 : decode cX7_recut 58 = .ok (.getfield 7, 3) := by decide +kernel
theorem dX7_recut_61 : decode cX7_recut 61 = .ok (.iconst 4, 1) := by decide +kernel
theorem dX7_recut_62 : decode cX7_recut 62 = .ok (.iaload, 1) := by decide +kernel
theorem dX7_recut_63 : decode cX7_recut 63 = .ok (.if_icmp .ge 25, 3) := by decide +kernel
theorem dX7_recut_66 : decode cX7_recut 66 = .ok (.aload_n 0, 1) := by decide +kernel
theorem dX7_recut_67 : decode cX7_recut 67 = .ok (.getfield 7, 3) := by decide +kernel
theorem dX7_recut_70 : decode cX7_recut 70 = .ok (.bipush 57, 2) := by decide +kernel
theorem dX7_recut_72 : decode cX7_recut 72 = .ok (.bipush 18, 2) := by decide +kernel
theorem dX7_recut_74 : decode cX7_recut 74 = .ok (.iload 4, 2) := by decide +kernel
theorem dX7_recut_76 : decode cX7_recut 76 = .ok (.imul, 1) := by decide +kernel
theorem dX7_recut_77 : decode cX7_recut 77 = .ok (.iadd, 1) := by decide +kernel
theorem dX7_recut_78 : decode cX7_recut 78 = .ok (.iconst 1, 1) := by decide +kernel
theorem dX7_recut_79 : decode cX7_recut 79 = .ok (.iadd, 1) := by decide +kernel
theorem dX7_recut_80 : decode cX7_recut 80 = .ok (.iconst 0, 1) := by decide +kernel
theorem dX7_recut_81 : decode cX7_recut 81 = .ok (.iastore, 1) := by decide +kernel
theorem dX7_recut_82 : decode cX7_recut 82 = .ok (.iinc 4 1, 3) := by decide +kernel
theorem dX7_recut_85 : decode cX7_recut 85 = .ok (.goto (-30), 3) := by decide +kernel
theorem dX7_recut_88 : decode cX7_recut 88 = .ok (.aload_n 0, 1) := by decide +kernel
theorem dX7_recut_89 : decode cX7_recut 89 = .ok (.getfield 7, 3) := by decide +kernel
theorem dX7_recut_92 : decode cX7_recut 92 = .ok (.iconst 5, 1) := by decide +kernel
theorem dX7_recut_93 : decode cX7_recut 93 = .ok (.iconst 0, 1) := by decide +kernel
theorem dX7_recut_94 : decode cX7_recut 94 = .ok (.iastore, 1) := by decide +kernel
theorem dX7_recut_95 : decode cX7_recut 95 = .ok (.aload_n 0, 1) := by decide +kernel
theorem dX7_recut_96 : decode cX7_recut 96 = .ok (.getfield 7, 3) := by decide +kernel
theorem dX7_recut_99 : decode cX7_recut 99 = .ok (.bipush 6, 2) := by decide +kernel
theorem dX7_recut_101 : decode cX7_recut 101 = .ok (.dup2, 1) := by decide +kernel
theorem dX7_recut_102 : decode cX7_recut 102 = .ok (.iaload, 1) := by decide +kernel
theorem dX7_recut_103 : decode cX7_recut 103 = .ok (.iconst 1, 1) := by decide +kernel
theorem dX7_recut_104 : decode cX7_recut 104 = .ok (.iadd, 1) := by decide +kernel
theorem dX7_recut_105 : decode cX7_recut 105 = .ok (.iastore, 1) := by decide +kernel
theorem dX7_recut_106 : decode cX7_recut 106 = .ok (.aload_n 0, 1) := by decide +kernel
theorem dX7_recut_107 : decode cX7_recut 107 = .ok (.getfield 7, 3) := by decide +kernel
theorem dX7_recut_110 : decode cX7_recut 110 = .ok (.bipush 7, 2) := by decide +kernel
theorem dX7_recut_112 : decode cX7_recut 112 = .ok (.dup2, 1) := by decide +kernel
theorem dX7_recut_113 : decode cX7_recut 113 = .ok (.iaload, 1) := by decide +kernel
theorem dX7_recut_114 : decode cX7_recut 114 = .ok (.iload_n 3, 1) := by decide +kernel
theorem dX7_recut_115 : decode cX7_recut 115 = .ok (.iadd, 1) := by decide +kernel
theorem dX7_recut_116 : decode cX7_recut 116 = .ok (.iastore, 1) := by decide +kernel
theorem dX7_recut_117 : decode cX7_recut 117 = .ok (.iload_n 3, 1) := by decide +kernel
theorem dX7_recut_118 : decode cX7_recut 118 = .ok (.ireturn, 1) := by decide +kernel
set_option maxRecDepth 20000 in
theorem ggX7_sets_X7_engraved : GoodIn wsX7_sets wsX7_engraved := goodIn_r _ [6, 1, 7, 8, 9, 5, 10, 17, 18, 19, 20, 21, 22, 23] (by decide +kernel) (by decide +kernel)
set_option maxRecDepth 20000 in
theorem gX7_sets_X7_engraved : GoodIn wsX7_sets (wsV RX7 81 RX7 yX7_engraved wsX7_engraved) := goodIn_app (goodIn_of _ (by decide +kernel)) ggX7_sets_X7_engraved
set_option maxRecDepth 20000 in
theorem ggX7_sets_X7_record : GoodIn wsX7_sets wsX7_record := goodIn_r _ [14, 15, 16, 1, 17, 18, 19, 20, 21, 22, 23] (by decide +kernel) (by decide +kernel)
set_option maxRecDepth 20000 in
theorem gX7_sets_X7_record : GoodIn wsX7_sets (wsV RX7 103 RX7 yX7_record wsX7_record) := goodIn_app (goodIn_of _ (by decide +kernel)) ggX7_sets_X7_record
theorem dX7_sets_0 : decode cX7_sets 0 = .ok (.aload_n 0, 1) := by decide +kernel
theorem dX7_sets_1 : decode cX7_sets 1 = .ok (.invokevirtual 81, 3) := by decide +kernel
theorem dX7_sets_4 : decode cX7_sets 4 = .ok (.ifCond .le 7, 3) := by decide +kernel
theorem dX7_sets_7 : decode cX7_sets 7 = .ok (.sipush (-1004), 3) := by decide +kernel
theorem dX7_sets_10 : decode cX7_sets 10 = .ok (.ireturn, 1) := by decide +kernel
theorem dX7_sets_11 : decode cX7_sets 11 = .ok (.aload_n 0, 1) := by decide +kernel
theorem dX7_sets_12 : decode cX7_sets 12 = .ok (.getfield 7, 3) := by decide +kernel
theorem dX7_sets_15 : decode cX7_sets 15 = .ok (.iload_n 1, 1) := by decide +kernel
theorem dX7_sets_16 : decode cX7_sets 16 = .ok (.iaload, 1) := by decide +kernel
theorem dX7_sets_17 : decode cX7_sets 17 = .ok (.istore_n 3, 1) := by decide +kernel
theorem dX7_sets_18 : decode cX7_sets 18 = .ok (.iload_n 3, 1) := by decide +kernel
theorem dX7_sets_19 : decode cX7_sets 19 = .ok (.iload_n 2, 1) := by decide +kernel
theorem dX7_sets_20 : decode cX7_sets 20 = .ok (.if_icmp .ne 7, 3) := by decide +kernel
theorem dX7_sets_23 : decode cX7_sets 23 = .ok (.sipush (-1005), 3) := by decide +kernel
theorem dX7_sets_26 : decode cX7_sets 26 = .ok (.ireturn, 1) := by decide +kernel
theorem dX7_sets_27 : decode cX7_sets 27 = .ok (.aload_n 0, 1) := by decide +kernel
theorem dX7_sets_28 : decode cX7_sets 28 = .ok (.invokevirtual 103, 3) := by decide +kernel
theorem dX7_sets_31 : decode cX7_sets 31 = .ok (.aload_n 0, 1) := by decide +kernel
theorem dX7_sets_32 : decode cX7_sets 32 = .ok (.getfield 7, 3) := by decide +kernel
theorem dX7_sets_35 : decode cX7_sets 35 = .ok (.iload_n 1, 1) := by decide +kernel
theorem dX7_sets_36 : decode cX7_sets 36 = .ok (.iload_n 2, 1) := by decide +kernel
theorem dX7_sets_37 : decode cX7_sets 37 = .ok (.iastore, 1) := by decide +kernel
theorem dX7_sets_38 : decode cX7_sets 38 = .ok (.iload_n 3, 1) := by decide +kernel
theorem dX7_sets_39 : decode cX7_sets 39 = .ok (.ireturn, 1) := by decide +kernel
set_option maxRecDepth 20000 in
theorem ggX7_setMargin_X7_in : GoodIn wsX7_setMargin wsX7_in := goodIn_r _ [4] (by decide +kernel) (by decide +kernel)
set_option maxRecDepth 20000 in
theorem gX7_setMargin_X7_in : GoodIn wsX7_setMargin (va_wsS RX7 27 yX7_in wsX7_in) := goodIn_app (goodIn_of _ (by decide +kernel)) ggX7_setMargin_X7_in
set_option maxRecDepth 20000 in
theorem ggX7_setMargin_X7_sets : GoodIn wsX7_setMargin wsX7_sets := goodIn_r _ [8, 9, 10, 11, 12, 3, 13, 14, 15, 16, 17, 18, 19, 20, 21, 22, 23, 24, 25, 26, 27, 28, 29, 30] (by decide +kernel) (by decide +kernel)
set_option maxRecDepth 20000 in
theorem gX7_setMargin_X7_sets : GoodIn wsX7_setMargin (wsV RX7 106 RX7 yX7_sets wsX7_sets) := goodIn_app (goodIn_of _ (by decide +kernel)) ggX7_setMargin_X7_sets
theorem dX7_setMargin_0 : decode cX7_setMargin 0 = .ok (.iload_n 1, 1) := by decide +kernel
theorem dX7_setMargin_1 : decode cX7_setMargin 1 = .ok (.iconst 0, 1) := by decide +kernel
theorem dX7_setMargin_2 : decode cX7_setMargin 2 = .ok (.bipush 100, 2) := by decide +kernel
theorem dX7_setMargin_4 : decode cX7_setMargin 4 = .ok (.invokestatic 27, 3) := by decide +kernel
theorem dX7_setMargin_7 : decode cX7_setMargin 7 = .ok (.ifCond .eq 12, 3) := by decide +kernel
theorem dX7_setMargin_10 : decode cX7_setMargin 10 = .ok (.aload_n 0, 1) := by decide +kernel
theorem dX7_setMargin_11 : decode cX7_setMargin 11 = .ok (.iconst 2, 1) := by decide +kernel
theorem dX7_setMargin_12 : decode cX7_setMargin 12 = .ok (.iload_n 1, 1) := by decide +kernel
theorem dX7_setMargin_13 : decode cX7_setMargin 13 = .ok (.invokevirtual 106, 3) := by decide +kernel
theorem dX7_setMargin_16 : decode cX7_setMargin 16 = .ok (.goto 6, 3) := by decide +kernel
theorem dX7_setMargin_19 : decode cX7_setMargin 19 = .ok (.sipush (-1002), 3) := by decide +kernel
theorem dX7_setMargin_22 : decode cX7_setMargin 22 = .ok (.ireturn, 1) := by decide +kernel
set_option maxRecDepth 20000 in
theorem ggX7_setColumns_X7_in : GoodIn wsX7_setColumns wsX7_in := goodIn_r _ [4] (by decide +kernel) (by decide +kernel)
set_option maxRecDepth 20000 in
theorem gX7_setColumns_X7_in : GoodIn wsX7_setColumns (va_wsS RX7 27 yX7_in wsX7_in) := goodIn_app (goodIn_of _ (by decide +kernel)) ggX7_setColumns_X7_in
set_option maxRecDepth 20000 in
theorem ggX7_setColumns_X7_sets : GoodIn wsX7_setColumns wsX7_sets := goodIn_r _ [8, 9, 10, 11, 12, 3, 13, 14, 15, 16, 17, 18, 19, 20, 21, 22, 23, 24, 25, 26, 27, 28, 29, 30] (by decide +kernel) (by decide +kernel)
set_option maxRecDepth 20000 in
theorem gX7_setColumns_X7_sets : GoodIn wsX7_setColumns (wsV RX7 106 RX7 yX7_sets wsX7_sets) := goodIn_app (goodIn_of _ (by decide +kernel)) ggX7_setColumns_X7_sets
theorem dX7_setColumns_0 : decode cX7_setColumns 0 = .ok (.iload_n 1, 1) := by decide +kernel
theorem dX7_setColumns_1 : decode cX7_setColumns 1 = .ok (.iconst 1, 1) := by decide +kernel
theorem dX7_setColumns_2 : decode cX7_setColumns 2 = .ok (.iconst 3, 1) := by decide +kernel
theorem dX7_setColumns_3 : decode cX7_setColumns 3 = .ok (.invokestatic 27, 3) := by decide +kernel
theorem dX7_setColumns_6 : decode cX7_setColumns 6 = .ok (.ifCond .eq 12, 3) := by decide +kernel
theorem dX7_setColumns_9 : decode cX7_setColumns 9 = .ok (.aload_n 0, 1) := by decide +kernel
theorem dX7_setColumns_10 : decode cX7_setColumns 10 = .ok (.iconst 3, 1) := by decide +kernel
theorem dX7_setColumns_11 : decode cX7_setColumns 11 = .ok (.iload_n 1, 1) := by decide +kernel
theorem dX7_setColumns_12 : decode cX7_setColumns 12 = .ok (.invokevirtual 106, 3) := by decide +kernel
theorem dX7_setColumns_15 : decode cX7_setColumns 15 = .ok (.goto 6, 3) := by decide +kernel
theorem dX7_setColumns_18 : decode cX7_setColumns 18 = .ok (.sipush (-1002), 3) := by decide +kernel
theorem dX7_setColumns_21 : decode cX7_setColumns 21 = .ok (.ireturn, 1) := by decide +kernel
set_option maxRecDepth 20000 in
theorem ggX7_isCut_X7_of : GoodIn wsX7_isCut wsX7_of := goodIn_r _ [6, 1, 15, 16, 17, 18, 19, 20, 21] (by decide +kernel) (by decide +kernel)
set_option maxRecDepth 20000 in
theorem gX7_isCut_X7_of : GoodIn wsX7_isCut (wsV RX7 46 RX7 yX7_of wsX7_of) := goodIn_app (goodIn_of _ (by decide +kernel)) ggX7_isCut_X7_of
set_option maxRecDepth 20000 in
theorem ggX7_isCut_X7_isEngraved : GoodIn wsX7_isCut wsX7_isEngraved := goodIn_r _ [10, 2, 3, 4, 5, 6, 1, 15, 16, 17, 18, 19, 20, 21] (by decide +kernel) (by decide +kernel)
set_option maxRecDepth 20000 in
theorem gX7_isCut_X7_isEngraved : GoodIn wsX7_isCut (wsV RX7 109 RX7 yX7_isEngraved wsX7_isEngraved) := goodIn_app (goodIn_of _ (by decide +kernel)) ggX7_isCut_X7_isEngraved
set_option maxRecDepth 20000 in
theorem ggX7_isCut_X7_signOf : GoodIn wsX7_isCut wsX7_signOf := goodIn_r _ [14, 2, 3, 4, 5, 6, 1, 15, 16, 17, 18, 19, 20, 21] (by decide +kernel) (by decide +kernel)
set_option maxRecDepth 20000 in
theorem gX7_isCut_X7_signOf : GoodIn wsX7_isCut (wsV RX7 49 RX7 yX7_signOf wsX7_signOf) := goodIn_app (goodIn_of _ (by decide +kernel)) ggX7_isCut_X7_signOf
theorem dX7_isCut_0 : decode cX7_isCut 0 = .ok (.iconst 0, 1) := by decide +kernel
theorem dX7_isCut_1 : decode cX7_isCut 1 = .ok (.istore_n 3, 1) := by decide +kernel
theorem dX7_isCut_2 : decode cX7_isCut 2 = .ok (.iload_n 3, 1) := by decide +kernel
theorem dX7_isCut_3 : decode cX7_isCut 3 = .ok (.aload_n 0, 1) := by decide +kernel
theorem dX7_isCut_4 : decode cX7_isCut 4 = .ok (.getfield 7, 3) := by decide +kernel
theorem dX7_isCut_7 : decode cX7_isCut 7 = .ok (.iconst 4, 1) := by decide +kernel
theorem dX7_isCut_8 : decode cX7_isCut 8 = .ok (.iaload, 1) := by decide +kernel
theorem dX7_isCut_9 : decode cX7_isCut 9 = .ok (.if_icmp .ge 65, 3) := by decide +kernel
theorem dX7_isCut_12 : decode cX7_isCut 12 = .ok (.iconst 0, 1) := by decide +kernel
theorem dX7_isCut_13 : decode cX7_isCut 13 = .ok (.istore 4, 2) := by decide +kernel
theorem dX7_isCut_15 : decode cX7_isCut 15 = .ok (.iload 4, 2) := by decide +kernel
theorem dX7_isCut_17 : decode cX7_isCut 17 = .ok (.iconst 1, 1) := by decide +kernel
theorem dX7_isCut_18 : decode cX7_isCut 18 = .ok (.iadd, 1) := by decide +kernel
theorem dX7_isCut_19 : decode cX7_isCut 19 = .ok (.aload_n 0, 1) := by decide +kernel
theorem dX7_isCut_20 : decode cX7_isCut 20 = .ok (.iload_n 3, 1) := by decide +kernel
theorem dX7_isCut_21 : decode cX7_isCut 21 = .ok (.iconst 0, 1) := by decide +kernel
theorem dX7_isCut_22 : decode cX7_isCut 22 = .ok (.invokevirtual 46, 3) := by decide +kernel
theorem dX7_isCut_25 : decode cX7_isCut 25 = .ok (.if_icmp .ge 43, 3) := by decide +kernel
theorem dX7_isCut_28 : decode cX7_isCut 28 = .ok (.aload_n 0, 1) := by decide +kernel
theorem dX7_isCut_29 : decode cX7_isCut 29 = .ok (.iload_n 3, 1) := by decide +kernel
theorem dX7_isCut_30 : decode cX7_isCut 30 = .ok (.invokevirtual 109, 3) := by decide +kernel
theorem dX7_isCut_33 : decode cX7_isCut 33 = .ok (.ifCond .eq 35, 3) := by decide +kernel
theorem dX7_isCut_36 : decode cX7_isCut 36 = .ok (.aload_n 0, 1) := by decide +kernel
theorem dX7_isCut_37 : decode cX7_isCut 37 = .ok (.iload_n 3, 1) := by decide +kernel
theorem dX7_isCut_38 : decode cX7_isCut 38 = .ok (.iload 4, 2) := by decide +kernel
theorem dX7_isCut_40 : decode cX7_isCut 40 = .ok (.invokevirtual 49, 3) := by decide +kernel
theorem dX7_isCut_43 : decode cX7_isCut 43 = .ok (.iload_n 1, 1) := by decide +kernel
theorem dX7_isCut_44 : decode cX7_isCut 44 = .ok (.if_icmp .ne 18, 3) := by decide +kernel
theorem dX7_isCut_47 : decode cX7_isCut 47 = .ok (.aload_n 0, 1) := by decide +kernel
theorem dX7_isCut_48 : decode cX7_isCut 48 = .ok (.iload_n 3, 1) := by decide +kernel
theorem dX7_isCut_49 : decode cX7_isCut 49 = .ok (.iload 4, 2) := by decide +kernel
theorem dX7_isCut_51 : decode cX7_isCut 51 = .ok (.iconst 1, 1) := by decide +kernel
theorem dX7_isCut_52 : decode cX7_isCut 52 = .ok (.iadd, 1) := by decide +kernel
theorem dX7_isCut_53 : decode cX7_isCut 53 = .ok (.invokevirtual 49, 3) := by decide +kernel
theorem dX7_isCut_56 : decode cX7_isCut 56 = .ok (.iload_n 2, 1) := by decide +kernel
theorem dX7_isCut_57 : decode cX7_isCut 57 = .ok (.if_icmp .ne 5, 3) := by decide +kernel
theorem dX7_isCut_60 : decode cX7_isCut 60 = .ok (.iconst 1, 1) := by decide +kernel
theorem dX7_isCut_61 : decode cX7_isCut 61 = .ok (.ireturn, 1) := by decide +kernel
theorem dX7_isCut_62 : decode cX7_isCut 62 = .ok (.iinc 4 1, 3) := by decide +kernel
theorem dX7_isCut_65 : decode cX7_isCut 65 = .ok (.goto (-50), 3) := by decide +kernel
theorem dX7_isCut_68 : decode cX7_isCut 68 = .ok (.iinc 3 1, 3) := by decide +kernel
theorem dX7_isCut_71 : decode cX7_isCut 71 = .ok (.goto (-69), 3) := by decide +kernel
theorem dX7_isCut_74 : decode cX7_isCut 74 = .ok (.iconst 0, 1) := by decide +kernel
theorem dX7_isCut_75 : decode cX7_isCut 75 = .ok (.ireturn, 1) := by decide +kernel
set_option maxRecDepth 20000 in
theorem ggX7_areSigns_X7_isLetter : GoodIn wsX7_areSigns wsX7_isLetter := goodIn_r _ [4, 5, 6, 3, 7] (by decide +kernel) (by decide +kernel)
set_option maxRecDepth 20000 in
theorem gX7_areSigns_X7_isLetter : GoodIn wsX7_areSigns (va_wsS RX7 31 yX7_isLetter wsX7_isLetter) := goodIn_app (goodIn_of _ (by decide +kernel)) ggX7_areSigns_X7_isLetter
set_option maxRecDepth 20000 in
theorem ggX7_areSigns_X7_isPoint : GoodIn wsX7_areSigns wsX7_isPoint := goodIn_r _ [10] (by decide +kernel) (by decide +kernel)
set_option maxRecDepth 20000 in
theorem gX7_areSigns_X7_isPoint : GoodIn wsX7_areSigns (va_wsS RX7 112 yX7_isPoint wsX7_isPoint) := goodIn_app (goodIn_of _ (by decide +kernel)) ggX7_areSigns_X7_isPoint
theorem dX7_areSigns_0 : decode cX7_areSigns 0 = .ok (.iload_n 0, 1) := by decide +kernel
theorem dX7_areSigns_1 : decode cX7_areSigns 1 = .ok (.invokestatic 31, 3) := by decide +kernel
theorem dX7_areSigns_4 : decode cX7_areSigns 4 = .ok (.ifCond .ne 10, 3) := by decide +kernel
theorem dX7_areSigns_7 : decode cX7_areSigns 7 = .ok (.iload_n 0, 1) := by decide +kernel
theorem dX7_areSigns_8 : decode cX7_areSigns 8 = .ok (.invokestatic 112, 3) := by decide +kernel
theorem dX7_areSigns_11 : decode cX7_areSigns 11 = .ok (.ifCond .eq 21, 3) := by decide +kernel
theorem dX7_areSigns_14 : decode cX7_areSigns 14 = .ok (.iload_n 1, 1) := by decide +kernel
theorem dX7_areSigns_15 : decode cX7_areSigns 15 = .ok (.invokestatic 31, 3) := by decide +kernel
theorem dX7_areSigns_18 : decode cX7_areSigns 18 = .ok (.ifCond .ne 10, 3) := by decide +kernel
theorem dX7_areSigns_21 : decode cX7_areSigns 21 = .ok (.iload_n 1, 1) := by decide +kernel
theorem dX7_areSigns_22 : decode cX7_areSigns 22 = .ok (.invokestatic 112, 3) := by decide +kernel
theorem dX7_areSigns_25 : decode cX7_areSigns 25 = .ok (.ifCond .eq 7, 3) := by decide +kernel
theorem dX7_areSigns_28 : decode cX7_areSigns 28 = .ok (.iconst 1, 1) := by decide +kernel
theorem dX7_areSigns_29 : decode cX7_areSigns 29 = .ok (.goto 4, 3) := by decide +kernel
theorem dX7_areSigns_32 : decode cX7_areSigns 32 = .ok (.iconst 0, 1) := by decide +kernel
theorem dX7_areSigns_33 : decode cX7_areSigns 33 = .ok (.ireturn, 1) := by decide +kernel
set_option maxRecDepth 20000 in
theorem ggX7_adjust_X7_areSigns : GoodIn wsX7_adjust wsX7_areSigns := goodIn_r _ [5, 6, 7, 4, 8, 9, 10, 11, 12, 13, 14] (by decide +kernel) (by decide +kernel)
set_option maxRecDepth 20000 in
theorem gX7_adjust_X7_areSigns : GoodIn wsX7_adjust (va_wsS RX7 115 yX7_areSigns wsX7_areSigns) := goodIn_app (goodIn_of _ (by decide +kernel)) ggX7_adjust_X7_areSigns
set_option maxRecDepth 20000 in
theorem ggX7_adjust_X7_in : GoodIn wsX7_adjust wsX7_in := goodIn_r _ [11] (by decide +kernel) (by decide +kernel)
set_option maxRecDepth 20000 in
theorem gX7_adjust_X7_in : GoodIn wsX7_adjust (va_wsS RX7 27 yX7_in wsX7_in) := goodIn_app (goodIn_of _ (by decide +kernel)) ggX7_adjust_X7_in
set_option maxRecDepth 20000 in
theorem ggX7_adjust_X7_isCut : GoodIn wsX7_adjust wsX7_isCut := goodIn_r _ [18, 1, 19, 20, 21, 4, 22, 23, 24, 25, 26, 27, 28, 29, 30, 45, 46, 47, 48, 49, 50, 51] (by decide +kernel) (by decide +kernel)
set_option maxRecDepth 20000 in
theorem gX7_adjust_X7_isCut : GoodIn wsX7_adjust (wsV RX7 119 RX7 yX7_isCut wsX7_isCut) := goodIn_app (goodIn_of _ (by decide +kernel)) ggX7_adjust_X7_isCut
set_option maxRecDepth 20000 in
theorem ggX7_adjust_X7_adjusted : GoodIn wsX7_adjust wsX7_adjusted := goodIn_r _ [34, 1, 35, 36, 37, 4, 38, 45, 46, 47, 48, 49, 50, 51] (by decide +kernel) (by decide +kernel)
set_option maxRecDepth 20000 in
theorem gX7_adjust_X7_adjusted : GoodIn wsX7_adjust (wsV RX7 43 RX7 yX7_adjusted wsX7_adjusted) := goodIn_app (goodIn_of _ (by decide +kernel)) ggX7_adjust_X7_adjusted
set_option maxRecDepth 20000 in
theorem ggX7_adjust_X7_record : GoodIn wsX7_adjust wsX7_record := goodIn_r _ [42, 43, 44, 1, 45, 46, 47, 48, 49, 50, 51] (by decide +kernel) (by decide +kernel)
set_option maxRecDepth 20000 in
theorem gX7_adjust_X7_record : GoodIn wsX7_adjust (wsV RX7 103 RX7 yX7_record wsX7_record) := goodIn_app (goodIn_of _ (by decide +kernel)) ggX7_adjust_X7_record
set_option maxRecDepth 20000 in
theorem ggX7_adjust_X7_placeOf : GoodIn wsX7_adjust wsX7_placeOf := goodIn_r _ [38, 1, 45, 46, 47, 48, 49, 50, 51] (by decide +kernel) (by decide +kernel)
set_option maxRecDepth 20000 in
theorem gX7_adjust_X7_placeOf : GoodIn wsX7_adjust (wsV RX7 35 RX7 yX7_placeOf wsX7_placeOf) := goodIn_app (goodIn_of _ (by decide +kernel)) ggX7_adjust_X7_placeOf
theorem dX7_adjust_0 : decode cX7_adjust 0 = .ok (.iload_n 1, 1) := by decide +kernel
theorem dX7_adjust_1 : decode cX7_adjust 1 = .ok (.iload_n 2, 1) := by decide +kernel
theorem dX7_adjust_2 : decode cX7_adjust 2 = .ok (.invokestatic 115, 3) := by decide +kernel
theorem dX7_adjust_5 : decode cX7_adjust 5 = .ok (.ifCond .ne 7, 3) := by decide +kernel
theorem dX7_adjust_8 : decode cX7_adjust 8 = .ok (.sipush (-1001), 3) := by decide +kernel
theorem dX7_adjust_11 : decode cX7_adjust 11 = .ok (.ireturn, 1) := by decide +kernel
theorem dX7_adjust_12 : decode cX7_adjust 12 = .ok (.iload_n 3, 1) := by decide +kernel
theorem dX7_adjust_13 : decode cX7_adjust 13 = .ok (.bipush (-3), 2) := by decide +kernel
theorem dX7_adjust_15 : decode cX7_adjust 15 = .ok (.iconst 3, 1) := by decide +kernel
theorem dX7_adjust_16 : decode cX7_adjust 16 = .ok (.invokestatic 27, 3) := by decide +kernel
theorem dX7_adjust_19 : decode cX7_adjust 19 = .ok (.ifCond .ne 7, 3) := by decide +kernel
theorem dX7_adjust_22 : decode cX7_adjust 22 = .ok (.sipush (-1002), 3) := by decide +kernel
theorem dX7_adjust_25 : decode cX7_adjust 25 = .ok (.ireturn, 1) := by decide +kernel
theorem dX7_adjust_26 : decode cX7_adjust 26 = .ok (.aload_n 0, 1) := by decide +kernel
theorem dX7_adjust_27 : decode cX7_adjust 27 = .ok (.iload_n 1, 1) := by decide +kernel
theorem dX7_adjust_28 : decode cX7_adjust 28 = .ok (.iload_n 2, 1) := by decide +kernel
theorem dX7_adjust_29 : decode cX7_adjust 29 = .ok (.invokevirtual 119, 3) := by decide +kernel
theorem dX7_adjust_32 : decode cX7_adjust 32 = .ok (.ifCond .eq 7, 3) := by decide +kernel
theorem dX7_adjust_35 : decode cX7_adjust 35 = .ok (.sipush (-1004), 3) := by decide +kernel
theorem dX7_adjust_38 : decode cX7_adjust 38 = .ok (.ireturn, 1) := by decide +kernel
theorem dX7_adjust_39 : decode cX7_adjust 39 = .ok (.aload_n 0, 1) := by decide +kernel
theorem dX7_adjust_40 : decode cX7_adjust 40 = .ok (.iload_n 1, 1) := by decide +kernel
theorem dX7_adjust_41 : decode cX7_adjust 41 = .ok (.iload_n 2, 1) := by decide +kernel
theorem dX7_adjust_42 : decode cX7_adjust 42 = .ok (.invokevirtual 43, 3) := by decide +kernel
theorem dX7_adjust_45 : decode cX7_adjust 45 = .ok (.istore 4, 2) := by decide +kernel
theorem dX7_adjust_47 : decode cX7_adjust 47 = .ok (.iload 4, 2) := by decide +kernel
theorem dX7_adjust_49 : decode cX7_adjust 49 = .ok (.iload_n 3, 1) := by decide +kernel
theorem dX7_adjust_50 : decode cX7_adjust 50 = .ok (.if_icmp .ne 7, 3) := by decide +kernel
theorem dX7_adjust_53 : decode cX7_adjust 53 = .ok (.sipush (-1005), 3) := by decide +kernel
theorem dX7_adjust_56 : decode cX7_adjust 56 = .ok (.ireturn, 1) := by decide +kernel
theorem dX7_adjust_57 : decode cX7_adjust 57 = .ok (.iload 4, 2) := by decide +kernel
theorem dX7_adjust_59 : decode cX7_adjust 59 = .ok (.ifCond .ne 19, 3) := by decide +kernel
theorem dX7_adjust_62 : decode cX7_adjust 62 = .ok (.aload_n 0, 1) := by decide +kernel
theorem dX7_adjust_63 : decode cX7_adjust 63 = .ok (.getfield 7, 3) := by decide +kernel
theorem dX7_adjust_66 : decode cX7_adjust 66 = .ok (.bipush 8, 2) := by decide +kernel
theorem dX7_adjust_68 : decode cX7_adjust 68 = .ok (.iaload, 1) := by decide +kernel
theorem dX7_adjust_69 : decode cX7_adjust 69 = .ok (.bipush 16, 2) := by decide +kernel
theorem dX7_adjust_71 : decode cX7_adjust 71 = .ok (.if_icmp .ne 7, 3) := by decide +kernel
theorem dX7_adjust_74 : decode cX7_adjust 74 = .ok (.sipush (-1003), 3) := by decide +kernel
theorem dX7_adjust_77 : decode cX7_adjust 77 = .ok (.ireturn, 1) := by decide +kernel
theorem dX7_adjust_78 : decode cX7_adjust 78 = .ok (.aload_n 0, 1) := by decide +kernel
theorem dX7_adjust_79 : decode cX7_adjust 79 = .ok (.invokevirtual 103, 3) := by decide +kernel
theorem dX7_adjust_82 : decode cX7_adjust 82 = .ok (.iload 4, 2) := by decide +kernel
theorem dX7_adjust_84 : decode cX7_adjust 84 = .ok (.ifCond .ne 13, 3) := by decide +kernel
theorem dX7_adjust_87 : decode cX7_adjust 87 = .ok (.aload_n 0, 1) := by decide +kernel
theorem dX7_adjust_88 : decode cX7_adjust 88 = .ok (.getfield 7, 3) := by decide +kernel
theorem dX7_adjust_91 : decode cX7_adjust 91 = .ok (.bipush 8, 2) := by decide +kernel
theorem dX7_adjust_93 : decode cX7_adjust 93 = .ok (.iaload, 1) := by decide +kernel
theorem dX7_adjust_94 : decode cX7_adjust 94 = .ok (.goto 9, 3) := by decide +kernel
theorem dX7_adjust_97 : decode cX7_adjust 97 = .ok (.aload_n 0, 1) := by decide +kernel
theorem dX7_adjust_98 : decode cX7_adjust 98 = .ok (.iload_n 1, 1) := by decide +kernel
theorem dX7_adjust_99 : decode cX7_adjust 99 = .ok (.iload_n 2, 1) := by decide +kernel
theorem dX7_adjust_100 : decode cX7_adjust 100 = .ok (.invokevirtual 35, 3) := by decide +kernel
theorem dX7_adjust_103 : decode cX7_adjust 103 = .ok (.istore 5, 2) := by decide +kernel
theorem dX7_adjust_105 : decode cX7_adjust 105 = .ok (.iload_n 3, 1) := by decide +kernel
theorem dX7_adjust_106 : decode cX7_adjust 106 = .ok (.ifCond .ne 65, 3) := by decide +kernel
theorem dX7_adjust_109 : decode cX7_adjust 109 = .ok (.aload_n 0, 1) := by decide +kernel
theorem dX7_adjust_110 : decode cX7_adjust 110 = .ok (.getfield 7, 3) := by decide +kernel
theorem dX7_adjust_113 : decode cX7_adjust 113 = .ok (.bipush 8, 2) := by decide +kernel
theorem dX7_adjust_115 : decode cX7_adjust 115 = .ok (.dup2, 1) := by decide +kernel
theorem dX7_adjust_116 : decode cX7_adjust 116 = .ok (.iaload, 1) := by decide +kernel
theorem dX7_adjust_117 : decode cX7_adjust 117 = .ok (.iconst 1, 1) := by decide +kernel
theorem dX7_adjust_118 : decode cX7_adjust 118 = .ok (.isub, 1) := by decide +kernel
theorem dX7_adjust_119 : decode cX7_adjust 119 = .ok (.iastore, 1) := by decide +kernel
theorem dX7_adjust_120 : decode cX7_adjust 120 = .ok (.bipush 9, 2) := by decide +kernel
theorem dX7_adjust_122 : decode cX7_adjust 122 = .ok (.iconst 3, 1) := by decide +kernel
theorem dX7_adjust_123 : decode cX7_adjust 123 = .ok (.iload 5, 2) := by decide +kernel
theorem dX7_adjust_125 : decode cX7_adjust 125 = .ok (.imul, 1) := by decide +kernel
theorem dX7_adjust_126 : decode cX7_adjust 126 = .ok (.iadd, 1) := by decide +kernel
theorem dX7_adjust_127 : decode cX7_adjust 127 = .ok (.istore 6, 2) := by decide +kernel
theorem dX7_adjust_129 : decode cX7_adjust 129 = .ok (.iload 6, 2) := by decide +kernel
theorem dX7_adjust_131 : decode cX7_adjust 131 = .ok (.bipush 9, 2) := by decide +kernel
theorem dX7_adjust_133 : decode cX7_adjust 133 = .ok (.iconst 3, 1) := by decide +kernel
theorem dX7_adjust_134 : decode cX7_adjust 134 = .ok (.aload_n 0, 1) := by decide +kernel
theorem dX7_adjust_135 : decode cX7_adjust 135 = .ok (.getfield 7, 3) := by decide +kernel
theorem dX7_adjust_138 : decode cX7_adjust 138 = .ok (.bipush 8, 2) := by decide +kernel
theorem dX7_adjust_140 : decode cX7_adjust 140 = .ok (.iaload, 1) := by decide +kernel
theorem dX7_adjust_141 : decode cX7_adjust 141 = .ok (.imul, 1) := by decide +kernel
theorem dX7_adjust_142 : decode cX7_adjust 142 = .ok (.iadd, 1) := by decide +kernel
theorem dX7_adjust_143 : decode cX7_adjust 143 = .ok (.if_icmp .ge 25, 3) := by decide +kernel
theorem dX7_adjust_146 : decode cX7_adjust 146 = .ok (.aload_n 0, 1) := by decide +kernel
theorem dX7_adjust_147 : decode cX7_adjust 147 = .ok (.getfield 7, 3) := by decide +kernel
theorem dX7_adjust_150 : decode cX7_adjust 150 = .ok (.iload 6, 2) := by decide +kernel
theorem dX7_adjust_152 : decode cX7_adjust 152 = .ok (.aload_n 0, 1) := by decide +kernel
theorem dX7_adjust_153 : decode cX7_adjust 153 = .ok (.getfield 7, 3) := by decide +kernel
theorem dX7_adjust_156 : decode cX7_adjust 156 = .ok (.iload 6, 2) := by decide +kernel
theorem dX7_adjust_158 : decode cX7_adjust 158 = .ok (.iconst 3, 1) := by decide +kernel
theorem dX7_adjust_159 : decode cX7_adjust 159 = .ok (.iadd, 1) := by decide +kernel
theorem dX7_adjust_160 : decode cX7_adjust 160 = .ok (.iaload, 1) := by decide +kernel
theorem dX7_adjust_161 : decode cX7_adjust 161 = .ok (.iastore, 1) := by decide +kernel
theorem dX7_adjust_162 : decode cX7_adjust 162 = .ok (.iinc 6 1, 3) := by decide +kernel
theorem dX7_adjust_165 : decode cX7_adjust 165 = .ok (.goto (-36), 3) := by decide +kernel
theorem dX7_adjust_168 : decode cX7_adjust 168 = .ok (.iload 4, 2) := by decide +kernel
theorem dX7_adjust_170 : decode cX7_adjust 170 = .ok (.ireturn, 1) := by decide +kernel
theorem dX7_adjust_171 : decode cX7_adjust 171 = .ok (.aload_n 0, 1) := by decide +kernel
theorem dX7_adjust_172 : decode cX7_adjust 172 = .ok (.getfield 7, 3) := by decide +kernel
theorem dX7_adjust_175 : decode cX7_adjust 175 = .ok (.bipush 8, 2) := by decide +kernel
theorem dX7_adjust_177 : decode cX7_adjust 177 = .ok (.dup2, 1) := by decide +kernel
theorem dX7_adjust_178 : decode cX7_adjust 178 = .ok (.iaload, 1) := by decide +kernel
theorem dX7_adjust_179 : decode cX7_adjust 179 = .ok (.iload 4, 2) := by decide +kernel
theorem dX7_adjust_181 : decode cX7_adjust 181 = .ok (.ifCond .ne 7, 3) := by decide +kernel
theorem dX7_adjust_184 : decode cX7_adjust 184 = .ok (.iconst 1, 1) := by decide +kernel
theorem dX7_adjust_185 : decode cX7_adjust 185 = .ok (.goto 4, 3) := by decide +kernel
theorem dX7_adjust_188 : decode cX7_adjust 188 = .ok (.iconst 0, 1) := by decide +kernel
theorem dX7_adjust_189 : decode cX7_adjust 189 = .ok (.iadd, 1) := by decide +kernel
theorem dX7_adjust_190 : decode cX7_adjust 190 = .ok (.iastore, 1) := by decide +kernel
theorem dX7_adjust_191 : decode cX7_adjust 191 = .ok (.aload_n 0, 1) := by decide +kernel
theorem dX7_adjust_192 : decode cX7_adjust 192 = .ok (.getfield 7, 3) := by decide +kernel
theorem dX7_adjust_195 : decode cX7_adjust 195 = .ok (.bipush 9, 2) := by decide +kernel
theorem dX7_adjust_197 : decode cX7_adjust 197 = .ok (.iconst 3, 1) := by decide +kernel
theorem dX7_adjust_198 : decode cX7_adjust 198 = .ok (.iload 5, 2) := by decide +kernel
theorem dX7_adjust_200 : decode cX7_adjust 200 = .ok (.imul, 1) := by decide +kernel
theorem dX7_adjust_201 : decode cX7_adjust 201 = .ok (.iadd, 1) := by decide +kernel
theorem dX7_adjust_202 : decode cX7_adjust 202 = .ok (.iload_n 1, 1) := by decide +kernel
theorem dX7_adjust_203 : decode cX7_adjust 203 = .ok (.iastore, 1) := by decide +kernel
theorem dX7_adjust_204 : decode cX7_adjust 204 = .ok (.aload_n 0, 1) := by decide +kernel
theorem dX7_adjust_205 : decode cX7_adjust 205 = .ok (.getfield 7, 3) := by decide +kernel
theorem dX7_adjust_208 : decode cX7_adjust 208 = .ok (.bipush 9, 2) := by decide +kernel
theorem dX7_adjust_210 : decode cX7_adjust 210 = .ok (.iconst 3, 1) := by decide +kernel
theorem dX7_adjust_211 : decode cX7_adjust 211 = .ok (.iload 5, 2) := by decide +kernel
theorem dX7_adjust_213 : decode cX7_adjust 213 = .ok (.imul, 1) := by decide +kernel
theorem dX7_adjust_214 : decode cX7_adjust 214 = .ok (.iadd, 1) := by decide +kernel
theorem dX7_adjust_215 : decode cX7_adjust 215 = .ok (.iconst 1, 1) := by decide +kernel
theorem dX7_adjust_216 : decode cX7_adjust 216 = .ok (.iadd, 1) := by decide +kernel
theorem dX7_adjust_217 : decode cX7_adjust 217 = .ok (.iload_n 2, 1) := by decide +kernel
theorem dX7_adjust_218 : decode cX7_adjust 218 = .ok (.iastore, 1) := by decide +kernel
theorem dX7_adjust_219 : decode cX7_adjust 219 = .ok (.aload_n 0, 1) := by decide +kernel
theorem dX7_adjust_220 : decode cX7_adjust 220 = .ok (.getfield 7, 3) := by decide +kernel
theorem dX7_adjust_223 : decode cX7_adjust 223 = .ok (.bipush 9, 2) := by decide +kernel
theorem dX7_adjust_225 : decode cX7_adjust 225 = .ok (.iconst 3, 1) := by decide +kernel
theorem dX7_adjust_226 : decode cX7_adjust 226 = .ok (.iload 5, 2) := by decide +kernel
theorem dX7_adjust_228 : decode cX7_adjust 228 = .ok (.imul, 1) := by decide +kernel
theorem dX7_adjust_229 : decode cX7_adjust 229 = .ok (.iadd, 1) := by decide +kernel
theorem dX7_adjust_230 : decode cX7_adjust 230 = .ok (.iconst 2, 1) := by decide +kernel
theorem dX7_adjust_231 : decode cX7_adjust 231 = .ok (.iadd, 1) := by decide +kernel
theorem dX7_adjust_232 : decode cX7_adjust 232 = .ok (.iload_n 3, 1) := by decide +kernel
theorem dX7_adjust_233 : decode cX7_adjust 233 = .ok (.iastore, 1) := by decide +kernel
theorem dX7_adjust_234 : decode cX7_adjust 234 = .ok (.iload 4, 2) := by decide +kernel
theorem dX7_adjust_236 : decode cX7_adjust 236 = .ok (.ireturn, 1) := by decide +kernel
theorem dX7_type_0 : decode cX7_type 0 = .ok (.aload_n 0, 1) := by decide +kernel
theorem dX7_type_1 : decode cX7_type 1 = .ok (.getfield 122, 3) := by decide +kernel
theorem dX7_type_4 : decode cX7_type 4 = .ok (.bipush 60, 2) := by decide +kernel
theorem dX7_type_6 : decode cX7_type 6 = .ok (.if_icmp .ne 7, 3) := by decide +kernel
theorem dX7_type_9 : decode cX7_type 9 = .ok (.sipush (-1003), 3) := by decide +kernel
theorem dX7_type_12 : decode cX7_type 12 = .ok (.ireturn, 1) := by decide +kernel
theorem dX7_type_13 : decode cX7_type 13 = .ok (.aload_n 0, 1) := by decide +kernel
theorem dX7_type_14 : decode cX7_type 14 = .ok (.getfield 19, 3) := by decide +kernel
theorem dX7_type_17 : decode cX7_type 17 = .ok (.aload_n 0, 1) := by decide +kernel
theorem dX7_type_18 : decode cX7_type 18 = .ok (.getfield 122, 3) := by decide +kernel
theorem dX7_type_21 : decode cX7_type 21 = .ok (.iload_n 1, 1) := by decide +kernel
theorem dX7_type_22 : decode cX7_type 22 = .ok (.castore, 1) := by decide +kernel
theorem dX7_type_23 : decode cX7_type 23 = .ok (.aload_n 0, 1) := by decide +kernel
theorem dX7_type_24 : decode cX7_type 24 = .ok (.dup, 1) := by decide +kernel
theorem dX7_type_25 : decode cX7_type 25 = .ok (.getfield 122, 3) := by decide +kernel
theorem dX7_type_28 : decode cX7_type 28 = .ok (.iconst 1, 1) := by decide +kernel
theorem dX7_type_29 : decode cX7_type 29 = .ok (.iadd, 1) := by decide +kernel
theorem dX7_type_30 : decode cX7_type 30 = .ok (.putfield 122, 3) := by decide +kernel
theorem dX7_type_33 : decode cX7_type 33 = .ok (.aload_n 0, 1) := by decide +kernel
theorem dX7_type_34 : decode cX7_type 34 = .ok (.getfield 122, 3) := by decide +kernel
theorem dX7_type_37 : decode cX7_type 37 = .ok (.ireturn, 1) := by decide +kernel
theorem dX7_clearText_0 : decode cX7_clearText 0 = .ok (.aload_n 0, 1) := by decide +kernel
theorem dX7_clearText_1 : decode cX7_clearText 1 = .ok (.getfield 122, 3) := by decide +kernel
theorem dX7_clearText_4 : decode cX7_clearText 4 = .ok (.istore_n 1, 1) := by decide +kernel
theorem dX7_clearText_5 : decode cX7_clearText 5 = .ok (.aload_n 0, 1) := by decide +kernel
theorem dX7_clearText_6 : decode cX7_clearText 6 = .ok (.iconst 0, 1) := by decide +kernel
theorem dX7_clearText_7 : decode cX7_clearText 7 = .ok (.putfield 122, 3) := by decide +kernel
theorem dX7_clearText_10 : decode cX7_clearText 10 = .ok (.iload_n 1, 1) := by decide +kernel
theorem dX7_clearText_11 : decode cX7_clearText 11 = .ok (.ireturn, 1) := by decide +kernel
set_option maxRecDepth 20000 in
theorem ggX7_faultOf_X7_isLetter : GoodIn wsX7_faultOf wsX7_isLetter := goodIn_r _ [6, 7, 8, 5, 9] (by decide +kernel) (by decide +kernel)
set_option maxRecDepth 20000 in
theorem gX7_faultOf_X7_isLetter : GoodIn wsX7_faultOf (va_wsS RX7 31 yX7_isLetter wsX7_isLetter) := goodIn_app (goodIn_of _ (by decide +kernel)) ggX7_faultOf_X7_isLetter
set_option maxRecDepth 20000 in
theorem ggX7_faultOf_X7_isPoint : GoodIn wsX7_faultOf wsX7_isPoint := goodIn_r _ [12] (by decide +kernel) (by decide +kernel)
set_option maxRecDepth 20000 in
theorem gX7_faultOf_X7_isPoint : GoodIn wsX7_faultOf (va_wsS RX7 112 yX7_isPoint wsX7_isPoint) := goodIn_app (goodIn_of _ (by decide +kernel)) ggX7_faultOf_X7_isPoint
theorem dX7_faultOf_0 : decode cX7_faultOf 0 = .ok (.iconst 0, 1) := by decide +kernel
theorem dX7_faultOf_1 : decode cX7_faultOf 1 = .ok (.istore_n 1, 1) := by decide +kernel
theorem dX7_faultOf_2 : decode cX7_faultOf 2 = .ok (.iconst 1, 1) := by decide +kernel
theorem dX7_faultOf_3 : decode cX7_faultOf 3 = .ok (.istore_n 2, 1) := by decide +kernel
theorem dX7_faultOf_4 : decode cX7_faultOf 4 = .ok (.iconst 0, 1) := by decide +kernel
theorem dX7_faultOf_5 : decode cX7_faultOf 5 = .ok (.istore_n 3, 1) := by decide +kernel
theorem dX7_faultOf_6 : decode cX7_faultOf 6 = .ok (.iload_n 3, 1) := by decide +kernel
theorem dX7_faultOf_7 : decode cX7_faultOf 7 = .ok (.aload_n 0, 1) := by decide +kernel
theorem dX7_faultOf_8 : decode cX7_faultOf 8 = .ok (.getfield 122, 3) := by decide +kernel
theorem dX7_faultOf_11 : decode cX7_faultOf 11 = .ok (.if_icmp .ge 74, 3) := by decide +kernel
theorem dX7_faultOf_14 : decode cX7_faultOf 14 = .ok (.aload_n 0, 1) := by decide +kernel
theorem dX7_faultOf_15 : decode cX7_faultOf 15 = .ok (.getfield 19, 3) := by decide +kernel
theorem dX7_faultOf_18 : decode cX7_faultOf 18 = .ok (.iload_n 3, 1) := by decide +kernel
theorem dX7_faultOf_19 : decode cX7_faultOf 19 = .ok (.caload, 1) := by decide +kernel
theorem dX7_faultOf_20 : decode cX7_faultOf 20 = .ok (.istore 4, 2) := by decide +kernel
theorem dX7_faultOf_22 : decode cX7_faultOf 22 = .ok (.iload 4, 2) := by decide +kernel
theorem dX7_faultOf_24 : decode cX7_faultOf 24 = .ok (.bipush 59, 2) := by decide +kernel
theorem dX7_faultOf_26 : decode cX7_faultOf 26 = .ok (.if_icmp .ne 16, 3) := by decide +kernel
theorem dX7_faultOf_29 : decode cX7_faultOf 29 = .ok (.iload_n 2, 1) := by decide +kernel
theorem dX7_faultOf_30 : decode cX7_faultOf 30 = .ok (.ifCond .eq 5, 3) := by decide +kernel
theorem dX7_faultOf_33 : decode cX7_faultOf 33 = .ok (.iload_n 3, 1) := by decide +kernel
theorem dX7_faultOf_34 : decode cX7_faultOf 34 = .ok (.ireturn, 1) := by decide +kernel
theorem dX7_faultOf_35 : decode cX7_faultOf 35 = .ok (.iconst 0, 1) := by decide +kernel
theorem dX7_faultOf_36 : decode cX7_faultOf 36 = .ok (.istore_n 1, 1) := by decide +kernel
theorem dX7_faultOf_37 : decode cX7_faultOf 37 = .ok (.iconst 1, 1) := by decide +kernel
theorem dX7_faultOf_38 : decode cX7_faultOf 38 = .ok (.istore_n 2, 1) := by decide +kernel
theorem dX7_faultOf_39 : decode cX7_faultOf 39 = .ok (.goto 40, 3) := by decide +kernel
theorem dX7_faultOf_42 : decode cX7_faultOf 42 = .ok (.iload_n 1, 1) := by decide +kernel
theorem dX7_faultOf_43 : decode cX7_faultOf 43 = .ok (.bipush 16, 2) := by decide +kernel
theorem dX7_faultOf_45 : decode cX7_faultOf 45 = .ok (.if_icmp .eq 23, 3) := by decide +kernel
theorem dX7_faultOf_48 : decode cX7_faultOf 48 = .ok (.iload 4, 2) := by decide +kernel
theorem dX7_faultOf_50 : decode cX7_faultOf 50 = .ok (.invokestatic 31, 3) := by decide +kernel
theorem dX7_faultOf_53 : decode cX7_faultOf 53 = .ok (.ifCond .ne 17, 3) := by decide +kernel
theorem dX7_faultOf_56 : decode cX7_faultOf 56 = .ok (.iload_n 2, 1) := by decide +kernel
theorem dX7_faultOf_57 : decode cX7_faultOf 57 = .ok (.ifCond .ne 11, 3) := by decide +kernel
theorem dX7_faultOf_60 : decode cX7_faultOf 60 = .ok (.iload 4, 2) := by decide +kernel
theorem dX7_faultOf_62 : decode cX7_faultOf 62 = .ok (.invokestatic 112, 3) := by decide +kernel
theorem dX7_faultOf_65 : decode cX7_faultOf 65 = .ok (.ifCond .ne 5, 3) := by decide +kernel
theorem dX7_faultOf_68 : decode cX7_faultOf 68 = .ok (.iload_n 3, 1) := by decide +kernel
theorem dX7_faultOf_69 : decode cX7_faultOf 69 = .ok (.ireturn, 1) := by decide +kernel
theorem dX7_faultOf_70 : decode cX7_faultOf 70 = .ok (.iinc 1 1, 3) := by decide +kernel
theorem dX7_faultOf_73 : decode cX7_faultOf 73 = .ok (.iload 4, 2) := by decide +kernel
theorem dX7_faultOf_75 : decode cX7_faultOf 75 = .ok (.invokestatic 112, 3) := by decide +kernel
theorem dX7_faultOf_78 : decode cX7_faultOf 78 = .ok (.istore_n 2, 1) := by decide +kernel
theorem dX7_faultOf_79 : decode cX7_faultOf 79 = .ok (.iinc 3 1, 3) := by decide +kernel
theorem dX7_faultOf_82 : decode cX7_faultOf 82 = .ok (.goto (-76), 3) := by decide +kernel
theorem dX7_faultOf_85 : decode cX7_faultOf 85 = .ok (.iload_n 2, 1) := by decide +kernel
theorem dX7_faultOf_86 : decode cX7_faultOf 86 = .ok (.ifCond .eq 10, 3) := by decide +kernel
theorem dX7_faultOf_89 : decode cX7_faultOf 89 = .ok (.aload_n 0, 1) := by decide +kernel
theorem dX7_faultOf_90 : decode cX7_faultOf 90 = .ok (.getfield 122, 3) := by decide +kernel
theorem dX7_faultOf_93 : decode cX7_faultOf 93 = .ok (.goto 6, 3) := by decide +kernel
theorem dX7_faultOf_96 : decode cX7_faultOf 96 = .ok (.sipush (-1005), 3) := by decide +kernel
theorem dX7_faultOf_99 : decode cX7_faultOf 99 = .ok (.ireturn, 1) := by decide +kernel
theorem dX7_namesInText_0 : decode cX7_namesInText 0 = .ok (.iconst 1, 1) := by decide +kernel
theorem dX7_namesInText_1 : decode cX7_namesInText 1 = .ok (.istore_n 1, 1) := by decide +kernel
theorem dX7_namesInText_2 : decode cX7_namesInText 2 = .ok (.iconst 0, 1) := by decide +kernel
theorem dX7_namesInText_3 : decode cX7_namesInText 3 = .ok (.istore_n 2, 1) := by decide +kernel
theorem dX7_namesInText_4 : decode cX7_namesInText 4 = .ok (.iload_n 2, 1) := by decide +kernel
theorem dX7_namesInText_5 : decode cX7_namesInText 5 = .ok (.aload_n 0, 1) := by decide +kernel
theorem dX7_namesInText_6 : decode cX7_namesInText 6 = .ok (.getfield 122, 3) := by decide +kernel
theorem dX7_namesInText_9 : decode cX7_namesInText 9 = .ok (.if_icmp .ge 28, 3) := by decide +kernel
theorem dX7_namesInText_12 : decode cX7_namesInText 12 = .ok (.iload_n 1, 1) := by decide +kernel
theorem dX7_namesInText_13 : decode cX7_namesInText 13 = .ok (.aload_n 0, 1) := by decide +kernel
theorem dX7_namesInText_14 : decode cX7_namesInText 14 = .ok (.getfield 19, 3) := by decide +kernel
theorem dX7_namesInText_17 : decode cX7_namesInText 17 = .ok (.iload_n 2, 1) := by decide +kernel
theorem dX7_namesInText_18 : decode cX7_namesInText 18 = .ok (.caload, 1) := by decide +kernel
theorem dX7_namesInText_19 : decode cX7_namesInText 19 = .ok (.bipush 59, 2) := by decide +kernel
theorem dX7_namesInText_21 : decode cX7_namesInText 21 = .ok (.if_icmp .ne 7, 3) := by decide +kernel
theorem dX7_namesInText_24 : decode cX7_namesInText 24 = .ok (.iconst 1, 1) := by decide +kernel
theorem dX7_namesInText_25 : decode cX7_namesInText 25 = .ok (.goto 4, 3) := by decide +kernel
theorem dX7_namesInText_28 : decode cX7_namesInText 28 = .ok (.iconst 0, 1) := by decide +kernel
theorem dX7_namesInText_29 : decode cX7_namesInText 29 = .ok (.iadd, 1) := by decide +kernel
theorem dX7_namesInText_30 : decode cX7_namesInText 30 = .ok (.istore_n 1, 1) := by decide +kernel
theorem dX7_namesInText_31 : decode cX7_namesInText 31 = .ok (.iinc 2 1, 3) := by decide +kernel
theorem dX7_namesInText_34 : decode cX7_namesInText 34 = .ok (.goto (-30), 3) := by decide +kernel
theorem dX7_namesInText_37 : decode cX7_namesInText 37 = .ok (.iload_n 1, 1) := by decide +kernel
theorem dX7_namesInText_38 : decode cX7_namesInText 38 = .ok (.ireturn, 1) := by decide +kernel
set_option maxRecDepth 20000 in
theorem ggX7_readNames_X7_faultOf : GoodIn wsX7_readNames wsX7_faultOf := goodIn_r _ [8, 2, 3, 9, 10, 7, 11, 12, 13, 14, 15, 16, 17, 28, 29, 30, 31, 32, 33, 34] (by decide +kernel) (by decide +kernel)
set_option maxRecDepth 20000 in
theorem gX7_readNames_X7_faultOf : GoodIn wsX7_readNames (wsV RX7 125 RX7 yX7_faultOf wsX7_faultOf) := goodIn_app (goodIn_of _ (by decide +kernel)) ggX7_readNames_X7_faultOf
set_option maxRecDepth 20000 in
theorem ggX7_readNames_X7_namesInText : GoodIn wsX7_readNames wsX7_namesInText := goodIn_r _ [21, 2, 3, 28, 29, 30, 31, 32, 33, 34] (by decide +kernel) (by decide +kernel)
set_option maxRecDepth 20000 in
theorem gX7_readNames_X7_namesInText : GoodIn wsX7_readNames (wsV RX7 128 RX7 yX7_namesInText wsX7_namesInText) := goodIn_app (goodIn_of _ (by decide +kernel)) ggX7_readNames_X7_namesInText
set_option maxRecDepth 20000 in
theorem ggX7_readNames_X7_record : GoodIn wsX7_readNames wsX7_record := goodIn_r _ [25, 26, 27, 1, 28, 29, 30, 31, 32, 33, 34] (by decide +kernel) (by decide +kernel)
set_option maxRecDepth 20000 in
theorem gX7_readNames_X7_record : GoodIn wsX7_readNames (wsV RX7 103 RX7 yX7_record wsX7_record) := goodIn_app (goodIn_of _ (by decide +kernel)) ggX7_readNames_X7_record
theorem dX7_readNames_0 : decode cX7_readNames 0 = .ok (.aload_n 0, 1) := by decide +kernel
theorem dX7_readNames_1 : decode cX7_readNames 1 = .ok (.invokevirtual 125, 3) := by decide +kernel
theorem dX7_readNames_4 : decode cX7_readNames 4 = .ok (.istore_n 1, 1) := by decide +kernel
theorem dX7_readNames_5 : decode cX7_readNames 5 = .ok (.iload_n 1, 1) := by decide +kernel
theorem dX7_readNames_6 : decode cX7_readNames 6 = .ok (.sipush (-1005), 3) := by decide +kernel
theorem dX7_readNames_9 : decode cX7_readNames 9 = .ok (.if_icmp .eq 8, 3) := by decide +kernel
theorem dX7_readNames_12 : decode cX7_readNames 12 = .ok (.bipush (-100), 2) := by decide +kernel
theorem dX7_readNames_14 : decode cX7_readNames 14 = .ok (.iload_n 1, 1) := by decide +kernel
theorem dX7_readNames_15 : decode cX7_readNames 15 = .ok (.isub, 1) := by decide +kernel
theorem dX7_readNames_16 : decode cX7_readNames 16 = .ok (.ireturn, 1) := by decide +kernel
theorem dX7_readNames_17 : decode cX7_readNames 17 = .ok (.aload_n 0, 1) := by decide +kernel
theorem dX7_readNames_18 : decode cX7_readNames 18 = .ok (.invokevirtual 128, 3) := by decide +kernel
theorem dX7_readNames_21 : decode cX7_readNames 21 = .ok (.istore_n 2, 1) := by decide +kernel
theorem dX7_readNames_22 : decode cX7_readNames 22 = .ok (.aload_n 0, 1) := by decide +kernel
theorem dX7_readNames_23 : decode cX7_readNames 23 = .ok (.getfield 7, 3) := by decide +kernel
theorem dX7_readNames_26 : decode cX7_readNames 26 = .ok (.iconst 4, 1) := by decide +kernel
theorem dX7_readNames_27 : decode cX7_readNames 27 = .ok (.iaload, 1) := by decide +kernel
theorem dX7_readNames_28 : decode cX7_readNames 28 = .ok (.iload_n 2, 1) := by decide +kernel
theorem dX7_readNames_29 : decode cX7_readNames 29 = .ok (.iadd, 1) := by decide +kernel
theorem dX7_readNames_30 : decode cX7_readNames 30 = .ok (.bipush 20, 2) := by decide +kernel
theorem dX7_readNames_32 : decode cX7_readNames 32 = .ok (.if_icmp .le 7, 3) := by decide +kernel
theorem dX7_readNames_35 : decode cX7_readNames 35 = .ok (.sipush (-1003), 3) := by decide +kernel
theorem dX7_readNames_38 : decode cX7_readNames 38 = .ok (.ireturn, 1) := by decide +kernel
theorem dX7_readNames_39 : decode cX7_readNames 39 = .ok (.aload_n 0, 1) := by decide +kernel
theorem dX7_readNames_40 : decode cX7_readNames 40 = .ok (.invokevirtual 103, 3) := by decide +kernel
theorem dX7_readNames_43 : decode cX7_readNames 43 = .ok (.bipush 57, 2) := by decide +kernel
theorem dX7_readNames_45 : decode cX7_readNames 45 = .ok (.bipush 18, 2) := by decide +kernel
theorem dX7_readNames_47 : decode cX7_readNames 47 = .ok (.aload_n 0, 1) := by decide +kernel
theorem dX7_readNames_48 : decode cX7_readNames 48 = .ok (.getfield 7, 3) := by decide +kernel
theorem dX7_readNames_51 : decode cX7_readNames 51 = .ok (.iconst 4, 1) := by decide +kernel
theorem dX7_readNames_52 : decode cX7_readNames 52 = .ok (.iaload, 1) := by decide +kernel
theorem dX7_readNames_53 : decode cX7_readNames 53 = .ok (.imul, 1) := by decide +kernel
theorem dX7_readNames_54 : decode cX7_readNames 54 = .ok (.iadd, 1) := by decide +kernel
theorem dX7_readNames_55 : decode cX7_readNames 55 = .ok (.istore_n 3, 1) := by decide +kernel
theorem dX7_readNames_56 : decode cX7_readNames 56 = .ok (.aload_n 0, 1) := by decide +kernel
theorem dX7_readNames_57 : decode cX7_readNames 57 = .ok (.getfield 7, 3) := by decide +kernel
theorem dX7_readNames_60 : decode cX7_readNames 60 = .ok (.iload_n 3, 1) := by decide +kernel
theorem dX7_readNames_61 : decode cX7_readNames 61 = .ok (.iconst 0, 1) := by decide +kernel
theorem dX7_readNames_62 : decode cX7_readNames 62 = .ok (.iadd, 1) := by decide +kernel
theorem dX7_readNames_63 : decode cX7_readNames 63 = .ok (.iconst 0, 1) := by decide +kernel
theorem dX7_readNames_64 : decode cX7_readNames 64 = .ok (.iastore, 1) := by decide +kernel
theorem dX7_readNames_65 : decode cX7_readNames 65 = .ok (.aload_n 0, 1) := by decide +kernel
theorem dX7_readNames_66 : decode cX7_readNames 66 = .ok (.getfield 7, 3) := by decide +kernel
theorem dX7_readNames_69 : decode cX7_readNames 69 = .ok (.iload_n 3, 1) := by decide +kernel
theorem dX7_readNames_70 : decode cX7_readNames 70 = .ok (.iconst 1, 1) := by decide +kernel
theorem dX7_readNames_71 : decode cX7_readNames 71 = .ok (.iadd, 1) := by decide +kernel
theorem dX7_readNames_72 : decode cX7_readNames 72 = .ok (.iconst 0, 1) := by decide +kernel
theorem dX7_readNames_73 : decode cX7_readNames 73 = .ok (.iastore, 1) := by decide +kernel
theorem dX7_readNames_74 : decode cX7_readNames 74 = .ok (.iconst 0, 1) := by decide +kernel
theorem dX7_readNames_75 : decode cX7_readNames 75 = .ok (.istore 4, 2) := by decide +kernel
theorem dX7_readNames_77 : decode cX7_readNames 77 = .ok (.iload 4, 2) := by decide +kernel
theorem dX7_readNames_79 : decode cX7_readNames 79 = .ok (.aload_n 0, 1) := by decide +kernel
theorem dX7_readNames_80 : decode cX7_readNames 80 = .ok (.getfield 122, 3) := by decide +kernel
theorem dX7_readNames_83 : decode cX7_readNames 83 = .ok (.if_icmp .ge 81, 3) := by decide +kernel
theorem dX7_readNames_86 : decode cX7_readNames 86 = .ok (.aload_n 0, 1) := by decide +kernel
theorem dX7_readNames_87 : decode cX7_readNames 87 = .ok (.getfield 19, 3) := by decide +kernel
theorem dX7_readNames_90 : decode cX7_readNames 90 = .ok (.iload 4, 2) := by decide +kernel
theorem dX7_readNames_92 : decode cX7_readNames 92 = .ok (.caload, 1) := by decide +kernel
theorem dX7_readNames_93 : decode cX7_readNames 93 = .ok (.bipush 59, 2) := by decide +kernel
theorem dX7_readNames_95 : decode cX7_readNames 95 = .ok (.if_icmp .ne 27, 3) := by decide +kernel
theorem dX7_readNames_98 : decode cX7_readNames 98 = .ok (.iinc 3 18, 3) := by decide +kernel
theorem dX7_readNames_101 : decode cX7_readNames 101 = .ok (.aload_n 0, 1) := by decide +kernel
theorem dX7_readNames_102 : decode cX7_readNames 102 = .ok (.getfield 7, 3) := by decide +kernel
theorem dX7_readNames_105 : decode cX7_readNames 105 = .ok (.iload_n 3, 1) := by decide +kernel
theorem dX7_readNames_106 : decode cX7_readNames 106 = .ok (.iconst 0, 1) := by decide +kernel
theorem dX7_readNames_107 : decode cX7_readNames 107 = .ok (.iadd, 1) := by decide +kernel
theorem dX7_readNames_108 : decode cX7_readNames 108 = .ok (.iconst 0, 1) := by decide +kernel
theorem dX7_readNames_109 : decode cX7_readNames 109 = .ok (.iastore, 1) := by decide +kernel
theorem dX7_readNames_110 : decode cX7_readNames 110 = .ok (.aload_n 0, 1) := by decide +kernel
theorem dX7_readNames_111 : decode cX7_readNames 111 = .ok (.getfield 7, 3) := by decide +kernel
theorem dX7_readNames_114 : decode cX7_readNames 114 = .ok (.iload_n 3, 1) := by decide +kernel
theorem dX7_readNames_115 : decode cX7_readNames 115 = .ok (.iconst 1, 1) := by decide +kernel
theorem dX7_readNames_116 : decode cX7_readNames 116 = .ok (.iadd, 1) := by decide +kernel
theorem dX7_readNames_117 : decode cX7_readNames 117 = .ok (.iconst 0, 1) := by decide +kernel
theorem dX7_readNames_118 : decode cX7_readNames 118 = .ok (.iastore, 1) := by decide +kernel
theorem dX7_readNames_119 : decode cX7_readNames 119 = .ok (.goto 39, 3) := by decide +kernel
theorem dX7_readNames_122 : decode cX7_readNames 122 = .ok (.aload_n 0, 1) := by decide +kernel
theorem dX7_readNames_123 : decode cX7_readNames 123 = .ok (.getfield 7, 3) := by decide +kernel
theorem dX7_readNames_126 : decode cX7_readNames 126 = .ok (.iload_n 3, 1) := by decide +kernel
theorem dX7_readNames_127 : decode cX7_readNames 127 = .ok (.iconst 2, 1) := by decide +kernel
theorem dX7_readNames_128 : decode cX7_readNames 128 = .ok (.iadd, 1) := by decide +kernel
theorem dX7_readNames_129 : decode cX7_readNames 129 = .ok (.aload_n 0, 1) := by decide +kernel
theorem dX7_readNames_130 : decode cX7_readNames 130 = .ok (.getfield 7, 3) := by decide +kernel
theorem dX7_readNames_133 : decode cX7_readNames 133 = .ok (.iload_n 3, 1) := by decide +kernel
theorem dX7_readNames_134 : decode cX7_readNames 134 = .ok (.iconst 0, 1) := by decide +kernel
theorem dX7_readNames_135 : decode cX7_readNames 135 = .ok (.iadd, 1) := by decide +kernel
theorem dX7_readNames_136 : decode cX7_readNames 136 = .ok (.iaload, 1) := by decide +kernel
theorem dX7_readNames_137 : decode cX7_readNames 137 = .ok (.iadd, 1) := by decide +kernel
theorem dX7_readNames_138 : decode cX7_readNames 138 = .ok (.aload_n 0, 1) := by decide +kernel
theorem dX7_readNames_139 : decode cX7_readNames 139 = .ok (.getfield 19, 3) := by decide +kernel
theorem dX7_readNames_142 : decode cX7_readNames 142 = .ok (.iload 4, 2) := by decide +kernel
theorem dX7_readNames_144 : decode cX7_readNames 144 = .ok (.caload, 1) := by decide +kernel
theorem dX7_readNames_145 : decode cX7_readNames 145 = .ok (.iastore, 1) := by decide +kernel
theorem dX7_readNames_146 : decode cX7_readNames 146 = .ok (.aload_n 0, 1) := by decide +kernel
theorem dX7_readNames_147 : decode cX7_readNames 147 = .ok (.getfield 7, 3) := by decide +kernel
theorem dX7_readNames_150 : decode cX7_readNames 150 = .ok (.iload_n 3, 1) := by decide +kernel
theorem dX7_readNames_151 : decode cX7_readNames 151 = .ok (.iconst 0, 1) := by decide +kernel
theorem dX7_readNames_152 : decode cX7_readNames 152 = .ok (.iadd, 1) := by decide +kernel
theorem dX7_readNames_153 : decode cX7_readNames 153 = .ok (.dup2, 1) := by decide +kernel
theorem dX7_readNames_154 : decode cX7_readNames 154 = .ok (.iaload, 1) := by decide +kernel
theorem dX7_readNames_155 : decode cX7_readNames 155 = .ok (.iconst 1, 1) := by decide +kernel
theorem dX7_readNames_156 : decode cX7_readNames 156 = .ok (.iadd, 1) := by decide +kernel
theorem dX7_readNames_157 : decode cX7_readNames 157 = .ok (.iastore, 1) := by decide +kernel
theorem dX7_readNames_158 : decode cX7_readNames 158 = .ok (.iinc 4 1, 3) := by decide +kernel
theorem dX7_readNames_161 : decode cX7_readNames 161 = .ok (.goto (-84), 3) := by decide +kernel
theorem dX7_readNames_164 : decode cX7_readNames 164 = .ok (.aload_n 0, 1) := by decide +kernel
theorem dX7_readNames_165 : decode cX7_readNames 165 = .ok (.getfield 7, 3) := by decide +kernel
theorem dX7_readNames_168 : decode cX7_readNames 168 = .ok (.iconst 4, 1) := by decide +kernel
theorem dX7_readNames_169 : decode cX7_readNames 169 = .ok (.dup2, 1) := by decide +kernel
theorem dX7_readNames_170 : decode cX7_readNames 170 = .ok (.iaload, 1) := by decide +kernel
theorem dX7_readNames_171 : decode cX7_readNames 171 = .ok (.iload_n 2, 1) := by decide +kernel
theorem dX7_readNames_172 : decode cX7_readNames 172 = .ok (.iadd, 1) := by decide +kernel
theorem dX7_readNames_173 : decode cX7_readNames 173 = .ok (.iastore, 1) := by decide +kernel
theorem dX7_readNames_174 : decode cX7_readNames 174 = .ok (.iload_n 2, 1) := by decide +kernel
theorem dX7_readNames_175 : decode cX7_readNames 175 = .ok (.ireturn, 1) := by decide +kernel
set_option maxRecDepth 20000 in
theorem ggX7_remove_X7_noSeat : GoodIn wsX7_remove wsX7_noSeat := goodIn_r _ [6, 1, 7, 8, 5, 9, 24, 25, 26, 27, 28, 29, 30] (by decide +kernel) (by decide +kernel)
set_option maxRecDepth 20000 in
theorem gX7_remove_X7_noSeat : GoodIn wsX7_remove (wsV RX7 131 RX7 yX7_noSeat wsX7_noSeat) := goodIn_app (goodIn_of _ (by decide +kernel)) ggX7_remove_X7_noSeat
set_option maxRecDepth 20000 in
theorem ggX7_remove_X7_isEngraved : GoodIn wsX7_remove wsX7_isEngraved := goodIn_r _ [13, 14, 15, 16, 5, 17, 1, 24, 25, 26, 27, 28, 29, 30] (by decide +kernel) (by decide +kernel)
set_option maxRecDepth 20000 in
theorem gX7_remove_X7_isEngraved : GoodIn wsX7_remove (wsV RX7 109 RX7 yX7_isEngraved wsX7_isEngraved) := goodIn_app (goodIn_of _ (by decide +kernel)) ggX7_remove_X7_isEngraved
set_option maxRecDepth 20000 in
theorem ggX7_remove_X7_record : GoodIn wsX7_remove wsX7_record := goodIn_r _ [21, 22, 23, 1, 24, 25, 26, 27, 28, 29, 30] (by decide +kernel) (by decide +kernel)
set_option maxRecDepth 20000 in
theorem gX7_remove_X7_record : GoodIn wsX7_remove (wsV RX7 103 RX7 yX7_record wsX7_record) := goodIn_app (goodIn_of _ (by decide +kernel)) ggX7_remove_X7_record
theorem dX7_remove_0 : decode cX7_remove 0 = .ok (.aload_n 0, 1) := by decide +kernel
theorem dX7_remove_1 : decode cX7_remove 1 = .ok (.iload_n 1, 1) := by decide +kernel
theorem dX7_remove_2 : decode cX7_remove 2 = .ok (.invokevirtual 131, 3) := by decide +kernel
theorem dX7_remove_5 : decode cX7_remove 5 = .ok (.ifCond .eq 7, 3) := by decide +kernel
theorem dX7_remove_8 : decode cX7_remove 8 = .ok (.sipush (-1001), 3) := by decide +kernel
theorem dX7_remove_11 : decode cX7_remove 11 = .ok (.ireturn, 1) := by decide +kernel
theorem dX7_remove_12 : decode cX7_remove 12 = .ok (.iload_n 1, 1) := by decide +kernel
theorem dX7_remove_13 : decode cX7_remove 13 = .ok (.istore_n 2, 1) := by decide +kernel
theorem dX7_remove_14 : decode cX7_remove 14 = .ok (.iload_n 2, 1) := by decide +kernel
theorem dX7_remove_15 : decode cX7_remove 15 = .ok (.aload_n 0, 1) := by decide +kernel
theorem dX7_remove_16 : decode cX7_remove 16 = .ok (.getfield 7, 3) := by decide +kernel
theorem dX7_remove_19 : decode cX7_remove 19 = .ok (.iconst 4, 1) := by decide +kernel
theorem dX7_remove_20 : decode cX7_remove 20 = .ok (.iaload, 1) := by decide +kernel
theorem dX7_remove_21 : decode cX7_remove 21 = .ok (.if_icmp .ge 21, 3) := by decide +kernel
theorem dX7_remove_24 : decode cX7_remove 24 = .ok (.aload_n 0, 1) := by decide +kernel
theorem dX7_remove_25 : decode cX7_remove 25 = .ok (.iload_n 2, 1) := by decide +kernel
theorem dX7_remove_26 : decode cX7_remove 26 = .ok (.invokevirtual 109, 3) := by decide +kernel
theorem dX7_remove_29 : decode cX7_remove 29 = .ok (.ifCond .eq 7, 3) := by decide +kernel
theorem dX7_remove_32 : decode cX7_remove 32 = .ok (.sipush (-1004), 3) := by decide +kernel
theorem dX7_remove_35 : decode cX7_remove 35 = .ok (.ireturn, 1) := by decide +kernel
theorem dX7_remove_36 : decode cX7_remove 36 = .ok (.iinc 2 1, 3) := by decide +kernel
theorem dX7_remove_39 : decode cX7_remove 39 = .ok (.goto (-25), 3) := by decide +kernel
theorem dX7_remove_42 : decode cX7_remove 42 = .ok (.aload_n 0, 1) := by decide +kernel
theorem dX7_remove_43 : decode cX7_remove 43 = .ok (.invokevirtual 103, 3) := by decide +kernel
theorem dX7_remove_46 : decode cX7_remove 46 = .ok (.aload_n 0, 1) := by decide +kernel
theorem dX7_remove_47 : decode cX7_remove 47 = .ok (.getfield 7, 3) := by decide +kernel
theorem dX7_remove_50 : decode cX7_remove 50 = .ok (.iconst 4, 1) := by decide +kernel
theorem dX7_remove_51 : decode cX7_remove 51 = .ok (.dup2, 1) := by decide +kernel
theorem dX7_remove_52 : decode cX7_remove 52 = .ok (.iaload, 1) := by decide +kernel
theorem dX7_remove_53 : decode cX7_remove 53 = .ok (.iconst 1, 1) := by decide +kernel
theorem dX7_remove_54 : decode cX7_remove 54 = .ok (.isub, 1) := by decide +kernel
theorem dX7_remove_55 : decode cX7_remove 55 = .ok (.iastore, 1) := by decide +kernel
theorem dX7_remove_56 : decode cX7_remove 56 = .ok (.bipush 57, 2) := by decide +kernel
theorem dX7_remove_58 : decode cX7_remove 58 = .ok (.bipush 18, 2) := by decide +kernel
theorem dX7_remove_60 : decode cX7_remove 60 = .ok (.iload_n 1, 1) := by decide +kernel
theorem dX7_remove_61 : decode cX7_remove 61 = .ok (.imul, 1) := by decide +kernel
theorem dX7_remove_62 : decode cX7_remove 62 = .ok (.iadd, 1) := by decide +kernel
theorem dX7_remove_63 : decode cX7_remove 63 = .ok (.istore_n 2, 1) := by decide +kernel
theorem dX7_remove_64 : decode cX7_remove 64 = .ok (.iload_n 2, 1) := by decide +kernel
theorem dX7_remove_65 : decode cX7_remove 65 = .ok (.bipush 57, 2) := by decide +kernel
theorem dX7_remove_67 : decode cX7_remove 67 = .ok (.bipush 18, 2) := by decide +kernel
theorem dX7_remove_69 : decode cX7_remove 69 = .ok (.aload_n 0, 1) := by decide +kernel
theorem dX7_remove_70 : decode cX7_remove 70 = .ok (.getfield 7, 3) := by decide +kernel
theorem dX7_remove_73 : decode cX7_remove 73 = .ok (.iconst 4, 1) := by decide +kernel
theorem dX7_remove_74 : decode cX7_remove 74 = .ok (.iaload, 1) := by decide +kernel
theorem dX7_remove_75 : decode cX7_remove 75 = .ok (.imul, 1) := by decide +kernel
theorem dX7_remove_76 : decode cX7_remove 76 = .ok (.iadd, 1) := by decide +kernel
theorem dX7_remove_77 : decode cX7_remove 77 = .ok (.if_icmp .ge 24, 3) := by decide +kernel
theorem dX7_remove_80 : decode cX7_remove 80 = .ok (.aload_n 0, 1) := by decide +kernel
theorem dX7_remove_81 : decode cX7_remove 81 = .ok (.getfield 7, 3) := by decide +kernel
theorem dX7_remove_84 : decode cX7_remove 84 = .ok (.iload_n 2, 1) := by decide +kernel
theorem dX7_remove_85 : decode cX7_remove 85 = .ok (.aload_n 0, 1) := by decide +kernel
theorem dX7_remove_86 : decode cX7_remove 86 = .ok (.getfield 7, 3) := by decide +kernel
theorem dX7_remove_89 : decode cX7_remove 89 = .ok (.iload_n 2, 1) := by decide +kernel
theorem dX7_remove_90 : decode cX7_remove 90 = .ok (.bipush 18, 2) := by decide +kernel
theorem dX7_remove_92 : decode cX7_remove 92 = .ok (.iadd, 1) := by decide +kernel
theorem dX7_remove_93 : decode cX7_remove 93 = .ok (.iaload, 1) := by decide +kernel
theorem dX7_remove_94 : decode cX7_remove 94 = .ok (.iastore, 1) := by decide +kernel
theorem dX7_remove_95 : decode cX7_remove 95 = .ok (.iinc 2 1, 3) := by decide +kernel
theorem dX7_remove_98 : decode cX7_remove 98 = .ok (.goto (-34), 3) := by decide +kernel
theorem dX7_remove_101 : decode cX7_remove 101 = .ok (.aload_n 0, 1) := by decide +kernel
theorem dX7_remove_102 : decode cX7_remove 102 = .ok (.getfield 7, 3) := by decide +kernel
theorem dX7_remove_105 : decode cX7_remove 105 = .ok (.iconst 4, 1) := by decide +kernel
theorem dX7_remove_106 : decode cX7_remove 106 = .ok (.iaload, 1) := by decide +kernel
theorem dX7_remove_107 : decode cX7_remove 107 = .ok (.ireturn, 1) := by decide +kernel
set_option maxRecDepth 20000 in
theorem ggX7_swap_X7_noSeat : GoodIn wsX7_swap wsX7_noSeat := goodIn_r _ [6, 1, 7, 8, 5, 9, 84, 85, 86, 87, 88, 89, 90] (by decide +kernel) (by decide +kernel)
set_option maxRecDepth 20000 in
theorem gX7_swap_X7_noSeat : GoodIn wsX7_swap (wsV RX7 131 RX7 yX7_noSeat wsX7_noSeat) := goodIn_app (goodIn_of _ (by decide +kernel)) ggX7_swap_X7_noSeat
set_option maxRecDepth 20000 in
theorem ggX7_swap_X7_isEngraved : GoodIn wsX7_swap wsX7_isEngraved := goodIn_r _ [13, 14, 15, 16, 5, 17, 1, 84, 85, 86, 87, 88, 89, 90] (by decide +kernel) (by decide +kernel)
set_option maxRecDepth 20000 in
theorem gX7_swap_X7_isEngraved : GoodIn wsX7_swap (wsV RX7 109 RX7 yX7_isEngraved wsX7_isEngraved) := goodIn_app (goodIn_of _ (by decide +kernel)) ggX7_swap_X7_isEngraved
set_option maxRecDepth 20000 in
theorem ggX7_swap_X7_record : GoodIn wsX7_swap wsX7_record := goodIn_r _ [21, 22, 23, 1, 84, 85, 86, 87, 88, 89, 90] (by decide +kernel) (by decide +kernel)
set_option maxRecDepth 20000 in
theorem gX7_swap_X7_record : GoodIn wsX7_swap (wsV RX7 103 RX7 yX7_record wsX7_record) := goodIn_app (goodIn_of _ (by decide +kernel)) ggX7_swap_X7_record
set_option maxRecDepth 20000 in
theorem ggX7_swap_X7_of : GoodIn wsX7_swap wsX7_of := goodIn_r _ [17, 1, 84, 85, 86, 87, 88, 89, 90] (by decide +kernel) (by decide +kernel)
set_option maxRecDepth 20000 in
theorem gX7_swap_X7_of : GoodIn wsX7_swap (wsV RX7 46 RX7 yX7_of wsX7_of) := goodIn_app (goodIn_of _ (by decide +kernel)) ggX7_swap_X7_of
set_option maxRecDepth 20000 in
theorem ggX7_swap_X7_size : GoodIn wsX7_swap wsX7_size := goodIn_r _ [27, 1, 28, 29, 30, 5, 31, 14, 15, 16, 17, 32, 33, 34, 35, 36, 37, 38, 39, 40, 41, 42, 43, 44, 45, 46, 47, 48, 49, 50, 51, 52, 53, 54, 55, 56, 57, 7, 8, 9, 58, 59, 60, 61, 62, 63, 64, 65, 66, 67, 68, 69, 70, 71, 72, 73, 74, 75, 76, 77, 78, 79, 80, 81, 82, 83, 84, 85, 86, 87, 88, 89, 90] (by decide +kernel) (by decide +kernel)
set_option maxRecDepth 20000 in
theorem gX7_swap_X7_size : GoodIn wsX7_swap (wsV RX7 134 RX7 yX7_size wsX7_size) := goodIn_app (goodIn_of _ (by decide +kernel)) ggX7_swap_X7_size
theorem dX7_swap_0 : decode cX7_swap 0 = .ok (.aload_n 0, 1) := by decide +kernel
theorem dX7_swap_1 : decode cX7_swap 1 = .ok (.iload_n 1, 1) := by decide +kernel
theorem dX7_swap_2 : decode cX7_swap 2 = .ok (.invokevirtual 131, 3) := by decide +kernel
theorem dX7_swap_5 : decode cX7_swap 5 = .ok (.ifCond .ne 11, 3) := by decide +kernel
theorem dX7_swap_8 : decode cX7_swap 8 = .ok (.aload_n 0, 1) := by decide +kernel
theorem dX7_swap_9 : decode cX7_swap 9 = .ok (.iload_n 2, 1) := by decide +kernel
theorem dX7_swap_10 : decode cX7_swap 10 = .ok (.invokevirtual 131, 3) := by decide +kernel
theorem dX7_swap_13 : decode cX7_swap 13 = .ok (.ifCond .eq 7, 3) := by decide +kernel
theorem dX7_swap_16 : decode cX7_swap 16 = .ok (.sipush (-1001), 3) := by decide +kernel
theorem dX7_swap_19 : decode cX7_swap 19 = .ok (.ireturn, 1) := by decide +kernel
theorem dX7_swap_20 : decode cX7_swap 20 = .ok (.aload_n 0, 1) := by decide +kernel
theorem dX7_swap_21 : decode cX7_swap 21 = .ok (.iload_n 1, 1) := by decide +kernel
theorem dX7_swap_22 : decode cX7_swap 22 = .ok (.invokevirtual 109, 3) := by decide +kernel
theorem dX7_swap_25 : decode cX7_swap 25 = .ok (.ifCond .ne 11, 3) := by decide +kernel
theorem dX7_swap_28 : decode cX7_swap 28 = .ok (.aload_n 0, 1) := by decide +kernel
theorem dX7_swap_29 : decode cX7_swap 29 = .ok (.iload_n 2, 1) := by decide +kernel
theorem dX7_swap_30 : decode cX7_swap 30 = .ok (.invokevirtual 109, 3) := by decide +kernel
theorem dX7_swap_33 : decode cX7_swap 33 = .ok (.ifCond .eq 7, 3) := by decide +kernel
theorem dX7_swap_36 : decode cX7_swap 36 = .ok (.sipush (-1004), 3) := by decide +kernel
theorem dX7_swap_39 : decode cX7_swap 39 = .ok (.ireturn, 1) := by decide +kernel
theorem dX7_swap_40 : decode cX7_swap 40 = .ok (.iload_n 1, 1) := by decide +kernel
theorem dX7_swap_41 : decode cX7_swap 41 = .ok (.iload_n 2, 1) := by decide +kernel
theorem dX7_swap_42 : decode cX7_swap 42 = .ok (.if_icmp .ne 7, 3) := by decide +kernel
theorem dX7_swap_45 : decode cX7_swap 45 = .ok (.sipush (-1005), 3) := by decide +kernel
theorem dX7_swap_48 : decode cX7_swap 48 = .ok (.ireturn, 1) := by decide +kernel
theorem dX7_swap_49 : decode cX7_swap 49 = .ok (.aload_n 0, 1) := by decide +kernel
theorem dX7_swap_50 : decode cX7_swap 50 = .ok (.invokevirtual 103, 3) := by decide +kernel
theorem dX7_swap_53 : decode cX7_swap 53 = .ok (.iconst 0, 1) := by decide +kernel
theorem dX7_swap_54 : decode cX7_swap 54 = .ok (.istore_n 3, 1) := by decide +kernel
theorem dX7_swap_55 : decode cX7_swap 55 = .ok (.iload_n 3, 1) := by decide +kernel
theorem dX7_swap_56 : decode cX7_swap 56 = .ok (.bipush 18, 2) := by decide +kernel
theorem dX7_swap_58 : decode cX7_swap 58 = .ok (.if_icmp .ge 53, 3) := by decide +kernel
theorem dX7_swap_61 : decode cX7_swap 61 = .ok (.aload_n 0, 1) := by decide +kernel
theorem dX7_swap_62 : decode cX7_swap 62 = .ok (.iload_n 1, 1) := by decide +kernel
theorem dX7_swap_63 : decode cX7_swap 63 = .ok (.iload_n 3, 1) := by decide +kernel
theorem dX7_swap_64 : decode cX7_swap 64 = .ok (.invokevirtual 46, 3) := by decide +kernel
theorem dX7_swap_67 : decode cX7_swap 67 = .ok (.istore 4, 2) := by decide +kernel
theorem dX7_swap_69 : decode cX7_swap 69 = .ok (.aload_n 0, 1) := by decide +kernel
theorem dX7_swap_70 : decode cX7_swap 70 = .ok (.getfield 7, 3) := by decide +kernel
theorem dX7_swap_73 : decode cX7_swap 73 = .ok (.bipush 57, 2) := by decide +kernel
theorem dX7_swap_75 : decode cX7_swap 75 = .ok (.bipush 18, 2) := by decide +kernel
theorem dX7_swap_77 : decode cX7_swap 77 = .ok (.iload_n 1, 1) := by decide +kernel
theorem dX7_swap_78 : decode cX7_swap 78 = .ok (.imul, 1) := by decide +kernel
theorem dX7_swap_79 : decode cX7_swap 79 = .ok (.iadd, 1) := by decide +kernel
theorem dX7_swap_80 : decode cX7_swap 80 = .ok (.iload_n 3, 1) := by decide +kernel
theorem dX7_swap_81 : decode cX7_swap 81 = .ok (.iadd, 1) := by decide +kernel
theorem dX7_swap_82 : decode cX7_swap 82 = .ok (.aload_n 0, 1) := by decide +kernel
theorem dX7_swap_83 : decode cX7_swap 83 = .ok (.iload_n 2, 1) := by decide +kernel
theorem dX7_swap_84 : decode cX7_swap 84 = .ok (.iload_n 3, 1) := by decide +kernel
theorem dX7_swap_85 : decode cX7_swap 85 = .ok (.invokevirtual 46, 3) := by decide +kernel
theorem dX7_swap_88 : decode cX7_swap 88 = .ok (.iastore, 1) := by decide +kernel
theorem dX7_swap_89 : decode cX7_swap 89 = .ok (.aload_n 0, 1) := by decide +kernel
theorem dX7_swap_90 : decode cX7_swap 90 = .ok (.getfield 7, 3) := by decide +kernel
theorem dX7_swap_93 : decode cX7_swap 93 = .ok (.bipush 57, 2) := by decide +kernel
theorem dX7_swap_95 : decode cX7_swap 95 = .ok (.bipush 18, 2) := by decide +kernel
theorem dX7_swap_97 : decode cX7_swap 97 = .ok (.iload_n 2, 1) := by decide +kernel
theorem dX7_swap_98 : decode cX7_swap 98 = .ok (.imul, 1) := by decide +kernel
theorem dX7_swap_99 : decode cX7_swap 99 = .ok (.iadd, 1) := by decide +kernel
theorem dX7_swap_100 : decode cX7_swap 100 = .ok (.iload_n 3, 1) := by decide +kernel
theorem dX7_swap_101 : decode cX7_swap 101 = .ok (.iadd, 1) := by decide +kernel
theorem dX7_swap_102 : decode cX7_swap 102 = .ok (.iload 4, 2) := by decide +kernel
theorem dX7_swap_104 : decode cX7_swap 104 = .ok (.iastore, 1) := by decide +kernel
theorem dX7_swap_105 : decode cX7_swap 105 = .ok (.iinc 3 1, 3) := by decide +kernel
theorem dX7_swap_108 : decode cX7_swap 108 = .ok (.goto (-53), 3) := by decide +kernel
theorem dX7_swap_111 : decode cX7_swap 111 = .ok (.aload_n 0, 1) := by decide +kernel
theorem dX7_swap_112 : decode cX7_swap 112 = .ok (.invokevirtual 134, 3) := by decide +kernel
theorem dX7_swap_115 : decode cX7_swap 115 = .ok (.ireturn, 1) := by decide +kernel
theorem dX7_engraves_0 : decode cX7_engraves 0 = .ok (.aload_n 0, 1) := by decide +kernel
theorem dX7_engraves_1 : decode cX7_engraves 1 = .ok (.getfield 7, 3) := by decide +kernel
theorem dX7_engraves_4 : decode cX7_engraves 4 = .ok (.bipush 57, 2) := by decide +kernel
theorem dX7_engraves_6 : decode cX7_engraves 6 = .ok (.bipush 18, 2) := by decide +kernel
theorem dX7_engraves_8 : decode cX7_engraves 8 = .ok (.iload_n 1, 1) := by decide +kernel
theorem dX7_engraves_9 : decode cX7_engraves 9 = .ok (.imul, 1) := by decide +kernel
theorem dX7_engraves_10 : decode cX7_engraves 10 = .ok (.iadd, 1) := by decide +kernel
theorem dX7_engraves_11 : decode cX7_engraves 11 = .ok (.iconst 1, 1) := by decide +kernel
theorem dX7_engraves_12 : decode cX7_engraves 12 = .ok (.iadd, 1) := by decide +kernel
theorem dX7_engraves_13 : decode cX7_engraves 13 = .ok (.iconst 1, 1) := by decide +kernel
theorem dX7_engraves_14 : decode cX7_engraves 14 = .ok (.iastore, 1) := by decide +kernel
theorem dX7_engraves_15 : decode cX7_engraves 15 = .ok (.aload_n 0, 1) := by decide +kernel
theorem dX7_engraves_16 : decode cX7_engraves 16 = .ok (.getfield 7, 3) := by decide +kernel
theorem dX7_engraves_19 : decode cX7_engraves 19 = .ok (.iconst 5, 1) := by decide +kernel
theorem dX7_engraves_20 : decode cX7_engraves 20 = .ok (.iload_n 2, 1) := by decide +kernel
theorem dX7_engraves_21 : decode cX7_engraves 21 = .ok (.iastore, 1) := by decide +kernel
theorem dX7_engraves_22 : decode cX7_engraves 22 = .ok (.return_, 1) := by decide +kernel
set_option maxRecDepth 20000 in
theorem ggX7_engrave_X7_noSeat : GoodIn wsX7_engrave wsX7_noSeat := goodIn_r _ [5, 6, 7, 8, 4, 9, 118, 119, 120, 121, 122, 123, 124] (by decide +kernel) (by decide +kernel)
set_option maxRecDepth 20000 in
theorem gX7_engrave_X7_noSeat : GoodIn wsX7_engrave (wsV RX7 131 RX7 yX7_noSeat wsX7_noSeat) := goodIn_app (goodIn_of _ (by decide +kernel)) ggX7_engrave_X7_noSeat
set_option maxRecDepth 20000 in
theorem ggX7_engrave_X7_size : GoodIn wsX7_engrave wsX7_size := goodIn_r _ [13, 6, 14, 15, 16, 4, 17, 18, 19, 20, 21, 22, 23, 24, 25, 26, 27, 28, 29, 30, 31, 32, 33, 34, 35, 36, 37, 38, 39, 40, 41, 42, 43, 44, 45, 46, 47, 7, 8, 9, 48, 49, 50, 51, 52, 53, 54, 55, 56, 57, 58, 59, 60, 61, 62, 63, 64, 65, 66, 67, 68, 69, 70, 71, 72, 73, 118, 119, 120, 121, 122, 123, 124] (by decide +kernel) (by decide +kernel)
set_option maxRecDepth 20000 in
theorem gX7_engrave_X7_size : GoodIn wsX7_engrave (wsV RX7 134 RX7 yX7_size wsX7_size) := goodIn_app (goodIn_of _ (by decide +kernel)) ggX7_engrave_X7_size
set_option maxRecDepth 20000 in
theorem ggX7_engrave_X7_fits : GoodIn wsX7_engrave wsX7_fits := goodIn_r _ [77, 6, 30, 31, 32, 4, 33, 18, 19, 20, 21, 34, 35, 36, 37, 38, 39, 40, 41, 42, 43, 44, 45, 46, 47, 7, 8, 9, 48, 49, 50, 51, 52, 53, 54, 55, 56, 57, 58, 59, 60, 61, 62, 78, 79, 80, 81, 71, 72, 73, 82, 83, 84, 85, 118, 119, 120, 121, 122, 123, 124] (by decide +kernel) (by decide +kernel)
set_option maxRecDepth 20000 in
theorem gX7_engrave_X7_fits : GoodIn wsX7_engrave (wsV RX7 137 RX7 yX7_fits wsX7_fits) := goodIn_app (goodIn_of _ (by decide +kernel)) ggX7_engrave_X7_fits
set_option maxRecDepth 20000 in
theorem ggX7_engrave_X7_isEngraved : GoodIn wsX7_engrave wsX7_isEngraved := goodIn_r _ [89, 18, 19, 20, 4, 21, 6, 118, 119, 120, 121, 122, 123, 124] (by decide +kernel) (by decide +kernel)
set_option maxRecDepth 20000 in
theorem gX7_engrave_X7_isEngraved : GoodIn wsX7_engrave (wsV RX7 109 RX7 yX7_isEngraved wsX7_isEngraved) := goodIn_app (goodIn_of _ (by decide +kernel)) ggX7_engrave_X7_isEngraved
set_option maxRecDepth 20000 in
theorem ggX7_engrave_X7_record : GoodIn wsX7_engrave wsX7_record := goodIn_r _ [93, 94, 95, 6, 118, 119, 120, 121, 122, 123, 124] (by decide +kernel) (by decide +kernel)
set_option maxRecDepth 20000 in
theorem gX7_engrave_X7_record : GoodIn wsX7_engrave (wsV RX7 103 RX7 yX7_record wsX7_record) := goodIn_app (goodIn_of _ (by decide +kernel)) ggX7_engrave_X7_record
set_option maxRecDepth 20000 in
theorem ggX7_engrave_X7_engraves : GoodIn wsX7_engrave wsX7_engraves := goodIn_r _ [99, 6, 118, 119, 120, 121, 122, 123, 124] (by decide +kernel) (by decide +kernel)
set_option maxRecDepth 20000 in
theorem gX7_engrave_X7_engraves : GoodIn wsX7_engrave (wsV RX7 140 RX7 yX7_engraves wsX7_engraves) := goodIn_app (goodIn_of _ (by decide +kernel)) ggX7_engrave_X7_engraves
set_option maxRecDepth 20000 in
theorem ggX7_engrave_X7_begin : GoodIn wsX7_engrave wsX7_begin := goodIn_r _ [103, 104, 105, 106, 4, 107, 18, 19, 20, 21, 6, 38, 39, 40, 41, 108, 109, 110, 45, 46, 47, 7, 8, 9, 34, 35, 36, 37, 42, 43, 44, 48, 49, 50, 51, 52, 53, 54, 55, 56, 57, 58, 59, 60, 61, 62, 111, 112, 113, 114, 78, 79, 80, 81, 71, 72, 73, 115, 116, 117, 30, 31, 32, 33, 118, 119, 120, 121, 122, 123, 124] (by decide +kernel) (by decide +kernel)
set_option maxRecDepth 20000 in
theorem gX7_engrave_X7_begin : GoodIn wsX7_engrave (wsV RX7 144 RX7 yX7_begin wsX7_begin) := goodIn_app (goodIn_of _ (by decide +kernel)) ggX7_engrave_X7_begin
theorem dX7_engrave_0 : decode cX7_engrave 0 = .ok (.aload_n 0, 1) := by decide +kernel
theorem dX7_engrave_1 : decode cX7_engrave 1 = .ok (.iload_n 1, 1) := by decide +kernel
theorem dX7_engrave_2 : decode cX7_engrave 2 = .ok (.invokevirtual 131, 3) := by decide +kernel
theorem dX7_engrave_5 : decode cX7_engrave 5 = .ok (.ifCond .eq 7, 3) := by decide +kernel
theorem dX7_engrave_8 : decode cX7_engrave 8 = .ok (.sipush (-1001), 3) := by decide +kernel
theorem dX7_engrave_11 : decode cX7_engrave 11 = .ok (.ireturn, 1) := by decide +kernel
theorem dX7_engrave_12 : decode cX7_engrave 12 = .ok (.aload_n 0, 1) := by decide +kernel
theorem dX7_engrave_13 : decode cX7_engrave 13 = .ok (.invokevirtual 134, 3) := by decide +kernel
theorem dX7_engrave_16 : decode cX7_engrave 16 = .ok (.istore_n 2, 1) := by decide +kernel
theorem dX7_engrave_17 : decode cX7_engrave 17 = .ok (.aload_n 0, 1) := by decide +kernel
theorem dX7_engrave_18 : decode cX7_engrave 18 = .ok (.iload_n 1, 1) := by decide +kernel
theorem dX7_engrave_19 : decode cX7_engrave 19 = .ok (.iload_n 2, 1) := by decide +kernel
theorem dX7_engrave_20 : decode cX7_engrave 20 = .ok (.invokevirtual 137, 3) := by decide +kernel
theorem dX7_engrave_23 : decode cX7_engrave 23 = .ok (.ifCond .ne 7, 3) := by decide +kernel
theorem dX7_engrave_26 : decode cX7_engrave 26 = .ok (.sipush (-1004), 3) := by decide +kernel
theorem dX7_engrave_29 : decode cX7_engrave 29 = .ok (.ireturn, 1) := by decide +kernel
theorem dX7_engrave_30 : decode cX7_engrave 30 = .ok (.aload_n 0, 1) := by decide +kernel
theorem dX7_engrave_31 : decode cX7_engrave 31 = .ok (.iload_n 1, 1) := by decide +kernel
theorem dX7_engrave_32 : decode cX7_engrave 32 = .ok (.invokevirtual 109, 3) := by decide +kernel
theorem dX7_engrave_35 : decode cX7_engrave 35 = .ok (.ifCond .eq 7, 3) := by decide +kernel
theorem dX7_engrave_38 : decode cX7_engrave 38 = .ok (.sipush (-1005), 3) := by decide +kernel
theorem dX7_engrave_41 : decode cX7_engrave 41 = .ok (.ireturn, 1) := by decide +kernel
theorem dX7_engrave_42 : decode cX7_engrave 42 = .ok (.aload_n 0, 1) := by decide +kernel
theorem dX7_engrave_43 : decode cX7_engrave 43 = .ok (.invokevirtual 103, 3) := by decide +kernel
theorem dX7_engrave_46 : decode cX7_engrave 46 = .ok (.aload_n 0, 1) := by decide +kernel
theorem dX7_engrave_47 : decode cX7_engrave 47 = .ok (.iload_n 1, 1) := by decide +kernel
theorem dX7_engrave_48 : decode cX7_engrave 48 = .ok (.iload_n 2, 1) := by decide +kernel
theorem dX7_engrave_49 : decode cX7_engrave 49 = .ok (.invokevirtual 140, 3) := by decide +kernel
theorem dX7_engrave_52 : decode cX7_engrave 52 = .ok (.aload_n 0, 1) := by decide +kernel
theorem dX7_engrave_53 : decode cX7_engrave 53 = .ok (.iload_n 1, 1) := by decide +kernel
theorem dX7_engrave_54 : decode cX7_engrave 54 = .ok (.iload_n 2, 1) := by decide +kernel
theorem dX7_engrave_55 : decode cX7_engrave 55 = .ok (.invokevirtual 144, 3) := by decide +kernel
theorem dX7_engrave_58 : decode cX7_engrave 58 = .ok (.ireturn, 1) := by decide +kernel
set_option maxRecDepth 20000 in
theorem ggX7_engraveAll_X7_size : GoodIn wsX7_engraveAll wsX7_size := goodIn_r _ [6, 1, 7, 8, 9, 5, 10, 11, 12, 13, 14, 15, 16, 17, 18, 19, 20, 21, 22, 23, 24, 25, 26, 27, 28, 29, 30, 31, 32, 33, 34, 35, 36, 37, 38, 39, 40, 41, 42, 43, 44, 45, 46, 47, 48, 49, 50, 51, 52, 53, 54, 55, 56, 57, 58, 59, 60, 61, 62, 63, 64, 65, 66, 67, 68, 69, 96, 97, 98, 99, 100, 101, 102] (by decide +kernel) (by decide +kernel)
set_option maxRecDepth 20000 in
theorem gX7_engraveAll_X7_size : GoodIn wsX7_engraveAll (wsV RX7 134 RX7 yX7_size wsX7_size) := goodIn_app (goodIn_of _ (by decide +kernel)) ggX7_engraveAll_X7_size
set_option maxRecDepth 20000 in
theorem ggX7_engraveAll_X7_isEngraved : GoodIn wsX7_engraveAll wsX7_isEngraved := goodIn_r _ [73, 11, 12, 13, 5, 14, 1, 96, 97, 98, 99, 100, 101, 102] (by decide +kernel) (by decide +kernel)
set_option maxRecDepth 20000 in
theorem gX7_engraveAll_X7_isEngraved : GoodIn wsX7_engraveAll (wsV RX7 109 RX7 yX7_isEngraved wsX7_isEngraved) := goodIn_app (goodIn_of _ (by decide +kernel)) ggX7_engraveAll_X7_isEngraved
set_option maxRecDepth 20000 in
theorem ggX7_engraveAll_X7_fits : GoodIn wsX7_engraveAll wsX7_fits := goodIn_r _ [77, 1, 23, 24, 25, 5, 26, 11, 12, 13, 14, 27, 28, 29, 30, 31, 32, 33, 34, 35, 36, 37, 38, 39, 40, 41, 42, 43, 44, 45, 46, 47, 48, 49, 50, 51, 52, 53, 54, 55, 56, 57, 58, 78, 79, 80, 81, 67, 68, 69, 82, 83, 84, 85, 96, 97, 98, 99, 100, 101, 102] (by decide +kernel) (by decide +kernel)
set_option maxRecDepth 20000 in
theorem gX7_engraveAll_X7_fits : GoodIn wsX7_engraveAll (wsV RX7 137 RX7 yX7_fits wsX7_fits) := goodIn_app (goodIn_of _ (by decide +kernel)) ggX7_engraveAll_X7_fits
set_option maxRecDepth 20000 in
theorem ggX7_engraveAll_X7_record : GoodIn wsX7_engraveAll wsX7_record := goodIn_r _ [89, 90, 91, 1, 96, 97, 98, 99, 100, 101, 102] (by decide +kernel) (by decide +kernel)
set_option maxRecDepth 20000 in
theorem gX7_engraveAll_X7_record : GoodIn wsX7_engraveAll (wsV RX7 103 RX7 yX7_record wsX7_record) := goodIn_app (goodIn_of _ (by decide +kernel)) ggX7_engraveAll_X7_record
set_option maxRecDepth 20000 in
theorem ggX7_engraveAll_X7_engraves : GoodIn wsX7_engraveAll wsX7_engraves := goodIn_r _ [95, 1, 96, 97, 98, 99, 100, 101, 102] (by decide +kernel) (by decide +kernel)
set_option maxRecDepth 20000 in
theorem gX7_engraveAll_X7_engraves : GoodIn wsX7_engraveAll (wsV RX7 140 RX7 yX7_engraves wsX7_engraves) := goodIn_app (goodIn_of _ (by decide +kernel)) ggX7_engraveAll_X7_engraves
theorem dX7_engraveAll_0 : decode cX7_engraveAll 0 = .ok (.aload_n 0, 1) := by decide +kernel
theorem dX7_engraveAll_1 : decode cX7_engraveAll 1 = .ok (.invokevirtual 134, 3) := by decide +kernel
theorem dX7_engraveAll_4 : decode cX7_engraveAll 4 = .ok (.istore_n 1, 1) := by decide +kernel
theorem dX7_engraveAll_5 : decode cX7_engraveAll 5 = .ok (.iconst 0, 1) := by decide +kernel
theorem dX7_engraveAll_6 : decode cX7_engraveAll 6 = .ok (.istore_n 2, 1) := by decide +kernel
theorem dX7_engraveAll_7 : decode cX7_engraveAll 7 = .ok (.iconst 0, 1) := by decide +kernel
theorem dX7_engraveAll_8 : decode cX7_engraveAll 8 = .ok (.istore_n 3, 1) := by decide +kernel
theorem dX7_engraveAll_9 : decode cX7_engraveAll 9 = .ok (.iload_n 3, 1) := by decide +kernel
theorem dX7_engraveAll_10 : decode cX7_engraveAll 10 = .ok (.aload_n 0, 1) := by decide +kernel
theorem dX7_engraveAll_11 : decode cX7_engraveAll 11 = .ok (.getfield 7, 3) := by decide +kernel
theorem dX7_engraveAll_14 : decode cX7_engraveAll 14 = .ok (.iconst 4, 1) := by decide +kernel
theorem dX7_engraveAll_15 : decode cX7_engraveAll 15 = .ok (.iaload, 1) := by decide +kernel
theorem dX7_engraveAll_16 : decode cX7_engraveAll 16 = .ok (.if_icmp .ge 34, 3) := by decide +kernel
theorem dX7_engraveAll_19 : decode cX7_engraveAll 19 = .ok (.iload_n 2, 1) := by decide +kernel
theorem dX7_engraveAll_20 : decode cX7_engraveAll 20 = .ok (.aload_n 0, 1) := by decide +kernel
theorem dX7_engraveAll_21 : decode cX7_engraveAll 21 = .ok (.iload_n 3, 1) := by decide +kernel
theorem dX7_engraveAll_22 : decode cX7_engraveAll 22 = .ok (.invokevirtual 109, 3) := by decide +kernel
theorem dX7_engraveAll_25 : decode cX7_engraveAll 25 = .ok (.ifCond .ne 16, 3) := by decide +kernel
theorem dX7_engraveAll_28 : decode cX7_engraveAll 28 = .ok (.aload_n 0, 1) := by decide +kernel
theorem dX7_engraveAll_29 : decode cX7_engraveAll 29 = .ok (.iload_n 3, 1) := by decide +kernel
theorem dX7_engraveAll_30 : decode cX7_engraveAll 30 = .ok (.iload_n 1, 1) := by decide +kernel
theorem dX7_engraveAll_31 : decode cX7_engraveAll 31 = .ok (.invokevirtual 137, 3) := by decide +kernel
theorem dX7_engraveAll_34 : decode cX7_engraveAll 34 = .ok (.ifCond .eq 7, 3) := by decide +kernel
theorem dX7_engraveAll_37 : decode cX7_engraveAll 37 = .ok (.iconst 1, 1) := by decide +kernel
theorem dX7_engraveAll_38 : decode cX7_engraveAll 38 = .ok (.goto 4, 3) := by decide +kernel
theorem dX7_engraveAll_41 : decode cX7_engraveAll 41 = .ok (.iconst 0, 1) := by decide +kernel
theorem dX7_engraveAll_42 : decode cX7_engraveAll 42 = .ok (.iadd, 1) := by decide +kernel
theorem dX7_engraveAll_43 : decode cX7_engraveAll 43 = .ok (.istore_n 2, 1) := by decide +kernel
theorem dX7_engraveAll_44 : decode cX7_engraveAll 44 = .ok (.iinc 3 1, 3) := by decide +kernel
theorem dX7_engraveAll_47 : decode cX7_engraveAll 47 = .ok (.goto (-38), 3) := by decide +kernel
theorem dX7_engraveAll_50 : decode cX7_engraveAll 50 = .ok (.iload_n 2, 1) := by decide +kernel
theorem dX7_engraveAll_51 : decode cX7_engraveAll 51 = .ok (.ifCond .ne 7, 3) := by decide +kernel
theorem dX7_engraveAll_54 : decode cX7_engraveAll 54 = .ok (.sipush (-1005), 3) := by decide +kernel
theorem dX7_engraveAll_57 : decode cX7_engraveAll 57 = .ok (.ireturn, 1) := by decide +kernel
theorem dX7_engraveAll_58 : decode cX7_engraveAll 58 = .ok (.aload_n 0, 1) := by decide +kernel
theorem dX7_engraveAll_59 : decode cX7_engraveAll 59 = .ok (.invokevirtual 103, 3) := by decide +kernel
theorem dX7_engraveAll_62 : decode cX7_engraveAll 62 = .ok (.iconst 0, 1) := by decide +kernel
theorem dX7_engraveAll_63 : decode cX7_engraveAll 63 = .ok (.istore_n 3, 1) := by decide +kernel
theorem dX7_engraveAll_64 : decode cX7_engraveAll 64 = .ok (.iload_n 3, 1) := by decide +kernel
theorem dX7_engraveAll_65 : decode cX7_engraveAll 65 = .ok (.aload_n 0, 1) := by decide +kernel
theorem dX7_engraveAll_66 : decode cX7_engraveAll 66 = .ok (.getfield 7, 3) := by decide +kernel
theorem dX7_engraveAll_69 : decode cX7_engraveAll 69 = .ok (.iconst 4, 1) := by decide +kernel
theorem dX7_engraveAll_70 : decode cX7_engraveAll 70 = .ok (.iaload, 1) := by decide +kernel
theorem dX7_engraveAll_71 : decode cX7_engraveAll 71 = .ok (.if_icmp .ge 32, 3) := by decide +kernel
theorem dX7_engraveAll_74 : decode cX7_engraveAll 74 = .ok (.aload_n 0, 1) := by decide +kernel
theorem dX7_engraveAll_75 : decode cX7_engraveAll 75 = .ok (.iload_n 3, 1) := by decide +kernel
theorem dX7_engraveAll_76 : decode cX7_engraveAll 76 = .ok (.invokevirtual 109, 3) := by decide +kernel
theorem dX7_engraveAll_79 : decode cX7_engraveAll 79 = .ok (.ifCond .ne 18, 3) := by decide +kernel
theorem dX7_engraveAll_82 : decode cX7_engraveAll 82 = .ok (.aload_n 0, 1) := by decide +kernel
theorem dX7_engraveAll_83 : decode cX7_engraveAll 83 = .ok (.iload_n 3, 1) := by decide +kernel
theorem dX7_engraveAll_84 : decode cX7_engraveAll 84 = .ok (.iload_n 1, 1) := by decide +kernel
theorem dX7_engraveAll_85 : decode cX7_engraveAll 85 = .ok (.invokevirtual 137, 3) := by decide +kernel
theorem dX7_engraveAll_88 : decode cX7_engraveAll 88 = .ok (.ifCond .eq 9, 3) := by decide +kernel
theorem dX7_engraveAll_91 : decode cX7_engraveAll 91 = .ok (.aload_n 0, 1) := by decide +kernel
theorem dX7_engraveAll_92 : decode cX7_engraveAll 92 = .ok (.iload_n 3, 1) := by decide +kernel
theorem dX7_engraveAll_93 : decode cX7_engraveAll 93 = .ok (.iload_n 1, 1) := by decide +kernel
theorem dX7_engraveAll_94 : decode cX7_engraveAll 94 = .ok (.invokevirtual 140, 3) := by decide +kernel
theorem dX7_engraveAll_97 : decode cX7_engraveAll 97 = .ok (.iinc 3 1, 3) := by decide +kernel
theorem dX7_engraveAll_100 : decode cX7_engraveAll 100 = .ok (.goto (-36), 3) := by decide +kernel
theorem dX7_engraveAll_103 : decode cX7_engraveAll 103 = .ok (.iload_n 2, 1) := by decide +kernel
theorem dX7_engraveAll_104 : decode cX7_engraveAll 104 = .ok (.ireturn, 1) := by decide +kernel
theorem dX7_undo_0 : decode cX7_undo 0 = .ok (.aload_n 0, 1) := by decide +kernel
theorem dX7_undo_1 : decode cX7_undo 1 = .ok (.getfield 23, 3) := by decide +kernel
theorem dX7_undo_4 : decode cX7_undo 4 = .ok (.ifCond .ne 7, 3) := by decide +kernel
theorem dX7_undo_7 : decode cX7_undo 7 = .ok (.sipush (-1005), 3) := by decide +kernel
theorem dX7_undo_10 : decode cX7_undo 10 = .ok (.ireturn, 1) := by decide +kernel
theorem dX7_undo_11 : decode cX7_undo 11 = .ok (.aload_n 0, 1) := by decide +kernel
theorem dX7_undo_12 : decode cX7_undo 12 = .ok (.dup, 1) := by decide +kernel
theorem dX7_undo_13 : decode cX7_undo 13 = .ok (.getfield 23, 3) := by decide +kernel
theorem dX7_undo_16 : decode cX7_undo 16 = .ok (.iconst 1, 1) := by decide +kernel
theorem dX7_undo_17 : decode cX7_undo 17 = .ok (.isub, 1) := by decide +kernel
theorem dX7_undo_18 : decode cX7_undo 18 = .ok (.putfield 23, 3) := by decide +kernel
theorem dX7_undo_21 : decode cX7_undo 21 = .ok (.iconst 0, 1) := by decide +kernel
theorem dX7_undo_22 : decode cX7_undo 22 = .ok (.istore_n 1, 1) := by decide +kernel
theorem dX7_undo_23 : decode cX7_undo 23 = .ok (.iload_n 1, 1) := by decide +kernel
theorem dX7_undo_24 : decode cX7_undo 24 = .ok (.sipush 417, 3) := by decide +kernel
theorem dX7_undo_27 : decode cX7_undo 27 = .ok (.if_icmp .ge 30, 3) := by decide +kernel
theorem dX7_undo_30 : decode cX7_undo 30 = .ok (.aload_n 0, 1) := by decide +kernel
theorem dX7_undo_31 : decode cX7_undo 31 = .ok (.getfield 7, 3) := by decide +kernel
theorem dX7_undo_34 : decode cX7_undo 34 = .ok (.iload_n 1, 1) := by decide +kernel
theorem dX7_undo_35 : decode cX7_undo 35 = .ok (.aload_n 0, 1) := by decide +kernel
theorem dX7_undo_36 : decode cX7_undo 36 = .ok (.getfield 13, 3) := by decide +kernel
theorem dX7_undo_39 : decode cX7_undo 39 = .ok (.sipush 417, 3) := by decide +kernel
theorem dX7_undo_42 : decode cX7_undo 42 = .ok (.aload_n 0, 1) := by decide +kernel
theorem dX7_undo_43 : decode cX7_undo 43 = .ok (.getfield 23, 3) := by decide +kernel
theorem dX7_undo_46 : decode cX7_undo 46 = .ok (.imul, 1) := by decide +kernel
theorem dX7_undo_47 : decode cX7_undo 47 = .ok (.iload_n 1, 1) := by decide +kernel
theorem dX7_undo_48 : decode cX7_undo 48 = .ok (.iadd, 1) := by decide +kernel
theorem dX7_undo_49 : decode cX7_undo 49 = .ok (.iaload, 1) := by decide +kernel
theorem dX7_undo_50 : decode cX7_undo 50 = .ok (.iastore, 1) := by decide +kernel
theorem dX7_undo_51 : decode cX7_undo 51 = .ok (.iinc 1 1, 3) := by decide +kernel
theorem dX7_undo_54 : decode cX7_undo 54 = .ok (.goto (-31), 3) := by decide +kernel
theorem dX7_undo_57 : decode cX7_undo 57 = .ok (.aload_n 0, 1) := by decide +kernel
theorem dX7_undo_58 : decode cX7_undo 58 = .ok (.getfield 23, 3) := by decide +kernel
theorem dX7_undo_61 : decode cX7_undo 61 = .ok (.ireturn, 1) := by decide +kernel
theorem dX7_keep_0 : decode cX7_keep 0 = .ok (.iconst 0, 1) := by decide +kernel
theorem dX7_keep_1 : decode cX7_keep 1 = .ok (.istore_n 1, 1) := by decide +kernel
theorem dX7_keep_2 : decode cX7_keep 2 = .ok (.iload_n 1, 1) := by decide +kernel
theorem dX7_keep_3 : decode cX7_keep 3 = .ok (.sipush 417, 3) := by decide +kernel
theorem dX7_keep_6 : decode cX7_keep 6 = .ok (.if_icmp .ge 21, 3) := by decide +kernel
theorem dX7_keep_9 : decode cX7_keep 9 = .ok (.aload_n 0, 1) := by decide +kernel
theorem dX7_keep_10 : decode cX7_keep 10 = .ok (.getfield 16, 3) := by decide +kernel
theorem dX7_keep_13 : decode cX7_keep 13 = .ok (.iload_n 1, 1) := by decide +kernel
theorem dX7_keep_14 : decode cX7_keep 14 = .ok (.aload_n 0, 1) := by decide +kernel
theorem dX7_keep_15 : decode cX7_keep 15 = .ok (.getfield 7, 3) := by decide +kernel
theorem dX7_keep_18 : decode cX7_keep 18 = .ok (.iload_n 1, 1) := by decide +kernel
theorem dX7_keep_19 : decode cX7_keep 19 = .ok (.iaload, 1) := by decide +kernel
theorem dX7_keep_20 : decode cX7_keep 20 = .ok (.iastore, 1) := by decide +kernel
theorem dX7_keep_21 : decode cX7_keep 21 = .ok (.iinc 1 1, 3) := by decide +kernel
theorem dX7_keep_24 : decode cX7_keep 24 = .ok (.goto (-22), 3) := by decide +kernel
theorem dX7_keep_27 : decode cX7_keep 27 = .ok (.aload_n 0, 1) := by decide +kernel
theorem dX7_keep_28 : decode cX7_keep 28 = .ok (.iconst 1, 1) := by decide +kernel
theorem dX7_keep_29 : decode cX7_keep 29 = .ok (.putfield 147, 3) := by decide +kernel
theorem dX7_keep_32 : decode cX7_keep 32 = .ok (.aload_n 0, 1) := by decide +kernel
theorem dX7_keep_33 : decode cX7_keep 33 = .ok (.getfield 7, 3) := by decide +kernel
theorem dX7_keep_36 : decode cX7_keep 36 = .ok (.iconst 4, 1) := by decide +kernel
theorem dX7_keep_37 : decode cX7_keep 37 = .ok (.iaload, 1) := by decide +kernel
theorem dX7_keep_38 : decode cX7_keep 38 = .ok (.ireturn, 1) := by decide +kernel
set_option maxRecDepth 20000 in
theorem ggX7_restore_X7_record : GoodIn wsX7_restore wsX7_record := goodIn_r _ [8, 9, 10, 2, 11, 12, 13, 14, 15, 16, 17] (by decide +kernel) (by decide +kernel)
set_option maxRecDepth 20000 in
theorem gX7_restore_X7_record : GoodIn wsX7_restore (wsV RX7 103 RX7 yX7_record wsX7_record) := goodIn_app (goodIn_of _ (by decide +kernel)) ggX7_restore_X7_record
theorem dX7_restore_0 : decode cX7_restore 0 = .ok (.aload_n 0, 1) := by decide +kernel
theorem dX7_restore_1 : decode cX7_restore 1 = .ok (.getfield 147, 3) := by decide +kernel
theorem dX7_restore_4 : decode cX7_restore 4 = .ok (.ifCond .ne 7, 3) := by decide +kernel
theorem dX7_restore_7 : decode cX7_restore 7 = .ok (.sipush (-1005), 3) := by decide +kernel
theorem dX7_restore_10 : decode cX7_restore 10 = .ok (.ireturn, 1) := by decide +kernel
theorem dX7_restore_11 : decode cX7_restore 11 = .ok (.aload_n 0, 1) := by decide +kernel
theorem dX7_restore_12 : decode cX7_restore 12 = .ok (.invokevirtual 103, 3) := by decide +kernel
theorem dX7_restore_15 : decode cX7_restore 15 = .ok (.iconst 0, 1) := by decide +kernel
theorem dX7_restore_16 : decode cX7_restore 16 = .ok (.istore_n 1, 1) := by decide +kernel
theorem dX7_restore_17 : decode cX7_restore 17 = .ok (.iload_n 1, 1) := by decide +kernel
theorem dX7_restore_18 : decode cX7_restore 18 = .ok (.sipush 417, 3) := by decide +kernel
theorem dX7_restore_21 : decode cX7_restore 21 = .ok (.if_icmp .ge 21, 3) := by decide +kernel
theorem dX7_restore_24 : decode cX7_restore 24 = .ok (.aload_n 0, 1) := by decide +kernel
theorem dX7_restore_25 : decode cX7_restore 25 = .ok (.getfield 7, 3) := by decide +kernel
theorem dX7_restore_28 : decode cX7_restore 28 = .ok (.iload_n 1, 1) := by decide +kernel
theorem dX7_restore_29 : decode cX7_restore 29 = .ok (.aload_n 0, 1) := by decide +kernel
theorem dX7_restore_30 : decode cX7_restore 30 = .ok (.getfield 16, 3) := by decide +kernel
theorem dX7_restore_33 : decode cX7_restore 33 = .ok (.iload_n 1, 1) := by decide +kernel
theorem dX7_restore_34 : decode cX7_restore 34 = .ok (.iaload, 1) := by decide +kernel
theorem dX7_restore_35 : decode cX7_restore 35 = .ok (.iastore, 1) := by decide +kernel
theorem dX7_restore_36 : decode cX7_restore 36 = .ok (.iinc 1 1, 3) := by decide +kernel
theorem dX7_restore_39 : decode cX7_restore 39 = .ok (.goto (-22), 3) := by decide +kernel
theorem dX7_restore_42 : decode cX7_restore 42 = .ok (.aload_n 0, 1) := by decide +kernel
theorem dX7_restore_43 : decode cX7_restore 43 = .ok (.getfield 7, 3) := by decide +kernel
theorem dX7_restore_46 : decode cX7_restore 46 = .ok (.iconst 4, 1) := by decide +kernel
theorem dX7_restore_47 : decode cX7_restore 47 = .ok (.iaload, 1) := by decide +kernel
theorem dX7_restore_48 : decode cX7_restore 48 = .ok (.ireturn, 1) := by decide +kernel
set_option maxRecDepth 20000 in
theorem ggX7_name_X7_noSeat : GoodIn wsX7_name wsX7_noSeat := goodIn_r _ [6, 1, 7, 8, 5, 9, 104, 105, 106, 107, 108, 109, 110] (by decide +kernel) (by decide +kernel)
set_option maxRecDepth 20000 in
theorem gX7_name_X7_noSeat : GoodIn wsX7_name (wsV RX7 131 RX7 yX7_noSeat wsX7_noSeat) := goodIn_app (goodIn_of _ (by decide +kernel)) ggX7_name_X7_noSeat
set_option maxRecDepth 20000 in
theorem ggX7_name_X7_size : GoodIn wsX7_name wsX7_size := goodIn_r _ [13, 1, 14, 15, 16, 5, 17, 18, 19, 20, 21, 22, 23, 24, 25, 26, 27, 28, 29, 30, 31, 32, 33, 34, 35, 36, 37, 38, 39, 40, 41, 42, 43, 44, 45, 46, 47, 7, 8, 9, 48, 49, 50, 51, 52, 53, 54, 55, 56, 57, 58, 59, 60, 61, 62, 63, 64, 65, 66, 67, 68, 69, 70, 71, 72, 73, 104, 105, 106, 107, 108, 109, 110] (by decide +kernel) (by decide +kernel)
set_option maxRecDepth 20000 in
theorem gX7_name_X7_size : GoodIn wsX7_name (wsV RX7 134 RX7 yX7_size wsX7_size) := goodIn_app (goodIn_of _ (by decide +kernel)) ggX7_name_X7_size
set_option maxRecDepth 20000 in
theorem ggX7_name_X7_of : GoodIn wsX7_name wsX7_of := goodIn_r _ [21, 1, 104, 105, 106, 107, 108, 109, 110] (by decide +kernel) (by decide +kernel)
set_option maxRecDepth 20000 in
theorem gX7_name_X7_of : GoodIn wsX7_name (wsV RX7 46 RX7 yX7_of wsX7_of) := goodIn_app (goodIn_of _ (by decide +kernel)) ggX7_name_X7_of
set_option maxRecDepth 20000 in
theorem ggX7_name_X7_units : GoodIn wsX7_name wsX7_units := goodIn_r _ [33, 18, 19, 20, 5, 21, 1, 34, 35, 36, 37, 38, 39, 40, 41, 42, 43, 44, 45, 46, 47, 7, 8, 9, 48, 49, 50, 51, 52, 53, 54, 55, 56, 57, 58, 59, 60, 61, 62, 104, 105, 106, 107, 108, 109, 110] (by decide +kernel) (by decide +kernel)
set_option maxRecDepth 20000 in
theorem gX7_name_X7_units : GoodIn wsX7_name (wsV RX7 68 RX7 yX7_units wsX7_units) := goodIn_app (goodIn_of _ (by decide +kernel)) ggX7_name_X7_units
set_option maxRecDepth 20000 in
theorem ggX7_name_X7_rowOf : GoodIn wsX7_name wsX7_rowOf := goodIn_r _ [77, 1, 104, 105, 106, 107, 108, 109, 110] (by decide +kernel) (by decide +kernel)
set_option maxRecDepth 20000 in
theorem gX7_name_X7_rowOf : GoodIn wsX7_name (wsV RX7 91 RX7 yX7_rowOf wsX7_rowOf) := goodIn_app (goodIn_of _ (by decide +kernel)) ggX7_name_X7_rowOf
set_option maxRecDepth 20000 in
theorem ggX7_name_X7_begin : GoodIn wsX7_name wsX7_begin := goodIn_r _ [81, 82, 83, 84, 5, 85, 18, 19, 20, 21, 1, 38, 39, 40, 41, 86, 87, 88, 45, 46, 47, 7, 8, 9, 34, 35, 36, 37, 42, 43, 44, 48, 49, 50, 51, 52, 53, 54, 55, 56, 57, 58, 59, 60, 61, 62, 89, 90, 91, 92, 93, 94, 95, 96, 71, 72, 73, 97, 98, 99, 30, 31, 32, 33, 104, 105, 106, 107, 108, 109, 110] (by decide +kernel) (by decide +kernel)
set_option maxRecDepth 20000 in
theorem gX7_name_X7_begin : GoodIn wsX7_name (wsV RX7 144 RX7 yX7_begin wsX7_begin) := goodIn_app (goodIn_of _ (by decide +kernel)) ggX7_name_X7_begin
set_option maxRecDepth 20000 in
theorem ggX7_name_X7_fits : GoodIn wsX7_name wsX7_fits := goodIn_r _ [103, 1, 30, 31, 32, 5, 33, 18, 19, 20, 21, 34, 35, 36, 37, 38, 39, 40, 41, 42, 43, 44, 45, 46, 47, 7, 8, 9, 48, 49, 50, 51, 52, 53, 54, 55, 56, 57, 58, 59, 60, 61, 62, 93, 94, 95, 96, 71, 72, 73, 74, 75, 76, 77, 104, 105, 106, 107, 108, 109, 110] (by decide +kernel) (by decide +kernel)
set_option maxRecDepth 20000 in
theorem gX7_name_X7_fits : GoodIn wsX7_name (wsV RX7 137 RX7 yX7_fits wsX7_fits) := goodIn_app (goodIn_of _ (by decide +kernel)) ggX7_name_X7_fits
set_option maxRecDepth 20000 in
theorem ggX7_name_X7_columnBegin : GoodIn wsX7_name wsX7_columnBegin := goodIn_r _ [92, 1, 93, 94, 95, 5, 96, 71, 72, 73, 104, 105, 106, 107, 108, 109, 110] (by decide +kernel) (by decide +kernel)
set_option maxRecDepth 20000 in
theorem gX7_name_X7_columnBegin : GoodIn wsX7_name (wsV RX7 97 RX7 yX7_columnBegin wsX7_columnBegin) := goodIn_app (goodIn_of _ (by decide +kernel)) ggX7_name_X7_columnBegin
set_option maxRecDepth 20000 in
theorem ggX7_name_X7_column : GoodIn wsX7_name wsX7_column := goodIn_r _ [96, 1, 71, 72, 5, 73, 104, 105, 106, 107, 108, 109, 110] (by decide +kernel) (by decide +kernel)
set_option maxRecDepth 20000 in
theorem gX7_name_X7_column : GoodIn wsX7_name (wsV RX7 88 RX7 yX7_column wsX7_column) := goodIn_app (goodIn_of _ (by decide +kernel)) ggX7_name_X7_column
set_option maxRecDepth 20000 in
theorem ggX7_name_X7_down : GoodIn wsX7_name wsX7_down := goodIn_r _ [99] (by decide +kernel) (by decide +kernel)
set_option maxRecDepth 20000 in
theorem gX7_name_X7_down : GoodIn wsX7_name (va_wsS RX7 100 yX7_down wsX7_down) := goodIn_app (goodIn_of _ (by decide +kernel)) ggX7_name_X7_down
set_option maxRecDepth 20000 in
theorem ggX7_name_X7_inkOf : GoodIn wsX7_name wsX7_inkOf := goodIn_r _ [85, 18, 19, 20, 5, 21, 1, 38, 39, 40, 41, 86, 87, 88, 45, 46, 47, 7, 8, 9, 104, 105, 106, 107, 108, 109, 110] (by decide +kernel) (by decide +kernel)
set_option maxRecDepth 20000 in
theorem gX7_name_X7_inkOf : GoodIn wsX7_name (wsV RX7 94 RX7 yX7_inkOf wsX7_inkOf) := goodIn_app (goodIn_of _ (by decide +kernel)) ggX7_name_X7_inkOf
theorem dX7_name_0 : decode cX7_name 0 = .ok (.aload_n 0, 1) := by decide +kernel
theorem dX7_name_1 : decode cX7_name 1 = .ok (.iload_n 1, 1) := by decide +kernel
theorem dX7_name_2 : decode cX7_name 2 = .ok (.invokevirtual 131, 3) := by decide +kernel
theorem dX7_name_5 : decode cX7_name 5 = .ok (.ifCond .eq 7, 3) := by decide +kernel
theorem dX7_name_8 : decode cX7_name 8 = .ok (.sipush (-1001), 3) := by decide +kernel
theorem dX7_name_11 : decode cX7_name 11 = .ok (.ireturn, 1) := by decide +kernel
theorem dX7_name_12 : decode cX7_name 12 = .ok (.aload_n 0, 1) := by decide +kernel
theorem dX7_name_13 : decode cX7_name 13 = .ok (.invokevirtual 134, 3) := by decide +kernel
theorem dX7_name_16 : decode cX7_name 16 = .ok (.istore_n 3, 1) := by decide +kernel
theorem dX7_name_17 : decode cX7_name 17 = .ok (.iload_n 3, 1) := by decide +kernel
theorem dX7_name_18 : decode cX7_name 18 = .ok (.ifCond .ne 30, 3) := by decide +kernel
theorem dX7_name_21 : decode cX7_name 21 = .ok (.iload_n 2, 1) := by decide +kernel
theorem dX7_name_22 : decode cX7_name 22 = .ok (.iconst 5, 1) := by decide +kernel
theorem dX7_name_23 : decode cX7_name 23 = .ok (.if_icmp .eq 21, 3) := by decide +kernel
theorem dX7_name_26 : decode cX7_name 26 = .ok (.iload_n 2, 1) := by decide +kernel
theorem dX7_name_27 : decode cX7_name 27 = .ok (.bipush 6, 2) := by decide +kernel
theorem dX7_name_29 : decode cX7_name 29 = .ok (.if_icmp .eq 15, 3) := by decide +kernel
theorem dX7_name_32 : decode cX7_name 32 = .ok (.iload_n 2, 1) := by decide +kernel
theorem dX7_name_33 : decode cX7_name 33 = .ok (.bipush 8, 2) := by decide +kernel
theorem dX7_name_35 : decode cX7_name 35 = .ok (.if_icmp .eq 9, 3) := by decide +kernel
theorem dX7_name_38 : decode cX7_name 38 = .ok (.iload_n 2, 1) := by decide +kernel
theorem dX7_name_39 : decode cX7_name 39 = .ok (.bipush 9, 2) := by decide +kernel
theorem dX7_name_41 : decode cX7_name 41 = .ok (.if_icmp .ne 7, 3) := by decide +kernel
theorem dX7_name_44 : decode cX7_name 44 = .ok (.sipush (-1005), 3) := by decide +kernel
theorem dX7_name_47 : decode cX7_name 47 = .ok (.ireturn, 1) := by decide +kernel
theorem dX7_name_48 : decode cX7_name 48 = .ok (.iload_n 2, 1) := by decide +kernel
theorem dX7_name_49 : decode cX7_name 49 = .ok (.tableswitch 193 0 10 #[59, 66, 72, 79, 85, 94, 101, 119, 134, 142, 187], 59) := by decide +kernel
theorem dX7_name_108 : decode cX7_name 108 = .ok (.aload_n 0, 1) := by decide +kernel
theorem dX7_name_109 : decode cX7_name 109 = .ok (.iload_n 1, 1) := by decide +kernel
theorem dX7_name_110 : decode cX7_name 110 = .ok (.iconst 0, 1) := by decide +kernel
theorem dX7_name_111 : decode cX7_name 111 = .ok (.invokevirtual 46, 3) := by decide +kernel
theorem dX7_name_114 : decode cX7_name 114 = .ok (.ireturn, 1) := by decide +kernel
theorem dX7_name_115 : decode cX7_name 115 = .ok (.aload_n 0, 1) := by decide +kernel
theorem dX7_name_116 : decode cX7_name 116 = .ok (.iload_n 1, 1) := by decide +kernel
theorem dX7_name_117 : decode cX7_name 117 = .ok (.invokevirtual 68, 3) := by decide +kernel
theorem dX7_name_120 : decode cX7_name 120 = .ok (.ireturn, 1) := by decide +kernel
theorem dX7_name_121 : decode cX7_name 121 = .ok (.aload_n 0, 1) := by decide +kernel
theorem dX7_name_122 : decode cX7_name 122 = .ok (.iload_n 1, 1) := by decide +kernel
theorem dX7_name_123 : decode cX7_name 123 = .ok (.iconst 1, 1) := by decide +kernel
theorem dX7_name_124 : decode cX7_name 124 = .ok (.invokevirtual 46, 3) := by decide +kernel
theorem dX7_name_127 : decode cX7_name 127 = .ok (.ireturn, 1) := by decide +kernel
theorem dX7_name_128 : decode cX7_name 128 = .ok (.aload_n 0, 1) := by decide +kernel
theorem dX7_name_129 : decode cX7_name 129 = .ok (.iload_n 1, 1) := by decide +kernel
theorem dX7_name_130 : decode cX7_name 130 = .ok (.invokevirtual 91, 3) := by decide +kernel
theorem dX7_name_133 : decode cX7_name 133 = .ok (.ireturn, 1) := by decide +kernel
theorem dX7_name_134 : decode cX7_name 134 = .ok (.iload_n 1, 1) := by decide +kernel
theorem dX7_name_135 : decode cX7_name 135 = .ok (.aload_n 0, 1) := by decide +kernel
theorem dX7_name_136 : decode cX7_name 136 = .ok (.getfield 7, 3) := by decide +kernel
theorem dX7_name_139 : decode cX7_name 139 = .ok (.iconst 3, 1) := by decide +kernel
theorem dX7_name_140 : decode cX7_name 140 = .ok (.iaload, 1) := by decide +kernel
theorem dX7_name_141 : decode cX7_name 141 = .ok (.irem, 1) := by decide +kernel
theorem dX7_name_142 : decode cX7_name 142 = .ok (.ireturn, 1) := by decide +kernel
theorem dX7_name_143 : decode cX7_name 143 = .ok (.aload_n 0, 1) := by decide +kernel
theorem dX7_name_144 : decode cX7_name 144 = .ok (.iload_n 1, 1) := by decide +kernel
theorem dX7_name_145 : decode cX7_name 145 = .ok (.iload_n 3, 1) := by decide +kernel
theorem dX7_name_146 : decode cX7_name 146 = .ok (.invokevirtual 144, 3) := by decide +kernel
theorem dX7_name_149 : decode cX7_name 149 = .ok (.ireturn, 1) := by decide +kernel
theorem dX7_name_150 : decode cX7_name 150 = .ok (.aload_n 0, 1) := by decide +kernel
theorem dX7_name_151 : decode cX7_name 151 = .ok (.getfield 7, 3) := by decide +kernel
theorem dX7_name_154 : decode cX7_name 154 = .ok (.iconst 2, 1) := by decide +kernel
theorem dX7_name_155 : decode cX7_name 155 = .ok (.iaload, 1) := by decide +kernel
theorem dX7_name_156 : decode cX7_name 156 = .ok (.bipush 12, 2) := by decide +kernel
theorem dX7_name_158 : decode cX7_name 158 = .ok (.iload_n 3, 1) := by decide +kernel
theorem dX7_name_159 : decode cX7_name 159 = .ok (.imul, 1) := by decide +kernel
theorem dX7_name_160 : decode cX7_name 160 = .ok (.aload_n 0, 1) := by decide +kernel
theorem dX7_name_161 : decode cX7_name 161 = .ok (.iload_n 1, 1) := by decide +kernel
theorem dX7_name_162 : decode cX7_name 162 = .ok (.invokevirtual 91, 3) := by decide +kernel
theorem dX7_name_165 : decode cX7_name 165 = .ok (.imul, 1) := by decide +kernel
theorem dX7_name_166 : decode cX7_name 166 = .ok (.iadd, 1) := by decide +kernel
theorem dX7_name_167 : decode cX7_name 167 = .ok (.ireturn, 1) := by decide +kernel
theorem dX7_name_168 : decode cX7_name 168 = .ok (.aload_n 0, 1) := by decide +kernel
theorem dX7_name_169 : decode cX7_name 169 = .ok (.iload_n 1, 1) := by decide +kernel
theorem dX7_name_170 : decode cX7_name 170 = .ok (.iload_n 3, 1) := by decide +kernel
theorem dX7_name_171 : decode cX7_name 171 = .ok (.invokevirtual 137, 3) := by decide +kernel
theorem dX7_name_174 : decode cX7_name 174 = .ok (.ifCond .eq 7, 3) := by decide +kernel
theorem dX7_name_177 : decode cX7_name 177 = .ok (.iconst 1, 1) := by decide +kernel
theorem dX7_name_178 : decode cX7_name 178 = .ok (.goto 4, 3) := by decide +kernel
theorem dX7_name_181 : decode cX7_name 181 = .ok (.iconst 0, 1) := by decide +kernel
theorem dX7_name_182 : decode cX7_name 182 = .ok (.ireturn, 1) := by decide +kernel
theorem dX7_name_183 : decode cX7_name 183 = .ok (.aload_n 0, 1) := by decide +kernel
theorem dX7_name_184 : decode cX7_name 184 = .ok (.iload_n 1, 1) := by decide +kernel
theorem dX7_name_185 : decode cX7_name 185 = .ok (.invokevirtual 68, 3) := by decide +kernel
theorem dX7_name_188 : decode cX7_name 188 = .ok (.iload_n 3, 1) := by decide +kernel
theorem dX7_name_189 : decode cX7_name 189 = .ok (.imul, 1) := by decide +kernel
theorem dX7_name_190 : decode cX7_name 190 = .ok (.ireturn, 1) := by decide +kernel
theorem dX7_name_191 : decode cX7_name 191 = .ok (.aload_n 0, 1) := by decide +kernel
theorem dX7_name_192 : decode cX7_name 192 = .ok (.iload_n 1, 1) := by decide +kernel
theorem dX7_name_193 : decode cX7_name 193 = .ok (.invokevirtual 97, 3) := by decide +kernel
theorem dX7_name_196 : decode cX7_name 196 = .ok (.aload_n 0, 1) := by decide +kernel
theorem dX7_name_197 : decode cX7_name 197 = .ok (.invokevirtual 88, 3) := by decide +kernel
theorem dX7_name_200 : decode cX7_name 200 = .ok (.aload_n 0, 1) := by decide +kernel
theorem dX7_name_201 : decode cX7_name 201 = .ok (.iload_n 1, 1) := by decide +kernel
theorem dX7_name_202 : decode cX7_name 202 = .ok (.invokevirtual 68, 3) := by decide +kernel
theorem dX7_name_205 : decode cX7_name 205 = .ok (.iload_n 3, 1) := by decide +kernel
theorem dX7_name_206 : decode cX7_name 206 = .ok (.imul, 1) := by decide +kernel
theorem dX7_name_207 : decode cX7_name 207 = .ok (.isub, 1) := by decide +kernel
theorem dX7_name_208 : decode cX7_name 208 = .ok (.iconst 2, 1) := by decide +kernel
theorem dX7_name_209 : decode cX7_name 209 = .ok (.invokestatic 100, 3) := by decide +kernel
theorem dX7_name_212 : decode cX7_name 212 = .ok (.iadd, 1) := by decide +kernel
theorem dX7_name_213 : decode cX7_name 213 = .ok (.istore 4, 2) := by decide +kernel
theorem dX7_name_215 : decode cX7_name 215 = .ok (.iload 4, 2) := by decide +kernel
theorem dX7_name_217 : decode cX7_name 217 = .ok (.aload_n 0, 1) := by decide +kernel
theorem dX7_name_218 : decode cX7_name 218 = .ok (.iload_n 1, 1) := by decide +kernel
theorem dX7_name_219 : decode cX7_name 219 = .ok (.invokevirtual 97, 3) := by decide +kernel
theorem dX7_name_222 : decode cX7_name 222 = .ok (.if_icmp .ge 11, 3) := by decide +kernel
theorem dX7_name_225 : decode cX7_name 225 = .ok (.aload_n 0, 1) := by decide +kernel
theorem dX7_name_226 : decode cX7_name 226 = .ok (.iload_n 1, 1) := by decide +kernel
theorem dX7_name_227 : decode cX7_name 227 = .ok (.invokevirtual 97, 3) := by decide +kernel
theorem dX7_name_230 : decode cX7_name 230 = .ok (.goto 5, 3) := by decide +kernel
theorem dX7_name_233 : decode cX7_name 233 = .ok (.iload 4, 2) := by decide +kernel
theorem dX7_name_235 : decode cX7_name 235 = .ok (.ireturn, 1) := by decide +kernel
theorem dX7_name_236 : decode cX7_name 236 = .ok (.aload_n 0, 1) := by decide +kernel
theorem dX7_name_237 : decode cX7_name 237 = .ok (.iload_n 1, 1) := by decide +kernel
theorem dX7_name_238 : decode cX7_name 238 = .ok (.invokevirtual 94, 3) := by decide +kernel
theorem dX7_name_241 : decode cX7_name 241 = .ok (.ireturn, 1) := by decide +kernel
theorem dX7_name_242 : decode cX7_name 242 = .ok (.sipush (-1002), 3) := by decide +kernel
theorem dX7_name_245 : decode cX7_name 245 = .ok (.ireturn, 1) := by decide +kernel
set_option maxRecDepth 20000 in
theorem ggX7_sign_X7_noSeat : GoodIn wsX7_sign wsX7_noSeat := goodIn_r _ [5, 6, 7, 8, 4, 9, 96, 97, 98, 99, 100, 101, 102] (by decide +kernel) (by decide +kernel)
set_option maxRecDepth 20000 in
theorem gX7_sign_X7_noSeat : GoodIn wsX7_sign (wsV RX7 131 RX7 yX7_noSeat wsX7_noSeat) := goodIn_app (goodIn_of _ (by decide +kernel)) ggX7_sign_X7_noSeat
set_option maxRecDepth 20000 in
theorem ggX7_sign_X7_of : GoodIn wsX7_sign wsX7_of := goodIn_r _ [13, 6, 96, 97, 98, 99, 100, 101, 102] (by decide +kernel) (by decide +kernel)
set_option maxRecDepth 20000 in
theorem gX7_sign_X7_of : GoodIn wsX7_sign (wsV RX7 46 RX7 yX7_of wsX7_of) := goodIn_app (goodIn_of _ (by decide +kernel)) ggX7_sign_X7_of
set_option maxRecDepth 20000 in
theorem ggX7_sign_X7_in : GoodIn wsX7_sign wsX7_in := goodIn_r _ [9] (by decide +kernel) (by decide +kernel)
set_option maxRecDepth 20000 in
theorem gX7_sign_X7_in : GoodIn wsX7_sign (va_wsS RX7 27 yX7_in wsX7_in) := goodIn_app (goodIn_of _ (by decide +kernel)) ggX7_sign_X7_in
set_option maxRecDepth 20000 in
theorem ggX7_sign_X7_signOf : GoodIn wsX7_sign wsX7_signOf := goodIn_r _ [17, 10, 11, 12, 4, 13, 6, 96, 97, 98, 99, 100, 101, 102] (by decide +kernel) (by decide +kernel)
set_option maxRecDepth 20000 in
theorem gX7_sign_X7_signOf : GoodIn wsX7_sign (wsV RX7 49 RX7 yX7_signOf wsX7_signOf) := goodIn_app (goodIn_of _ (by decide +kernel)) ggX7_sign_X7_signOf
set_option maxRecDepth 20000 in
theorem ggX7_sign_X7_space : GoodIn wsX7_sign wsX7_space := goodIn_r _ [21, 22, 23, 4, 24, 25, 26, 27, 7, 8, 9, 28, 29, 30, 31, 6, 32, 33, 34, 35, 96, 97, 98, 99, 100, 101, 102] (by decide +kernel) (by decide +kernel)
set_option maxRecDepth 20000 in
theorem gX7_sign_X7_space : GoodIn wsX7_sign (wsV RX7 55 RX7 yX7_space wsX7_space) := goodIn_app (goodIn_of _ (by decide +kernel)) ggX7_sign_X7_space
set_option maxRecDepth 20000 in
theorem ggX7_sign_X7_open : GoodIn wsX7_sign wsX7_open := goodIn_r _ [24, 25, 26, 4, 27, 7, 8, 9] (by decide +kernel) (by decide +kernel)
set_option maxRecDepth 20000 in
theorem gX7_sign_X7_open : GoodIn wsX7_sign (va_wsS RX7 39 yX7_open wsX7_open) := goodIn_app (goodIn_of _ (by decide +kernel)) ggX7_sign_X7_open
set_option maxRecDepth 20000 in
theorem ggX7_sign_X7_size : GoodIn wsX7_sign wsX7_size := goodIn_r _ [39, 6, 40, 41, 42, 4, 43, 10, 11, 12, 13, 44, 45, 46, 47, 48, 49, 50, 51, 52, 53, 54, 55, 56, 57, 58, 59, 14, 15, 16, 17, 60, 61, 62, 25, 26, 27, 7, 8, 9, 18, 19, 20, 21, 22, 23, 24, 28, 29, 30, 31, 32, 33, 34, 35, 63, 64, 65, 66, 67, 68, 69, 70, 71, 72, 73, 96, 97, 98, 99, 100, 101, 102] (by decide +kernel) (by decide +kernel)
set_option maxRecDepth 20000 in
theorem gX7_sign_X7_size : GoodIn wsX7_sign (wsV RX7 134 RX7 yX7_size wsX7_size) := goodIn_app (goodIn_of _ (by decide +kernel)) ggX7_sign_X7_size
set_option maxRecDepth 20000 in
theorem ggX7_sign_X7_unitsTo : GoodIn wsX7_sign wsX7_unitsTo := goodIn_r _ [59, 14, 15, 16, 4, 17, 10, 11, 12, 13, 6, 60, 61, 62, 25, 26, 27, 7, 8, 9, 18, 19, 20, 21, 22, 23, 24, 28, 29, 30, 31, 32, 33, 34, 35, 96, 97, 98, 99, 100, 101, 102] (by decide +kernel) (by decide +kernel)
set_option maxRecDepth 20000 in
theorem gX7_sign_X7_unitsTo : GoodIn wsX7_sign (wsV RX7 58 RX7 yX7_unitsTo wsX7_unitsTo) := goodIn_app (goodIn_of _ (by decide +kernel)) ggX7_sign_X7_unitsTo
set_option maxRecDepth 20000 in
theorem ggX7_sign_X7_wide : GoodIn wsX7_sign wsX7_wide := goodIn_r _ [62, 25, 26, 4, 27, 7, 8, 9] (by decide +kernel) (by decide +kernel)
set_option maxRecDepth 20000 in
theorem gX7_sign_X7_wide : GoodIn wsX7_sign (va_wsS RX7 52 yX7_wide wsX7_wide) := goodIn_app (goodIn_of _ (by decide +kernel)) ggX7_sign_X7_wide
set_option maxRecDepth 20000 in
theorem ggX7_sign_X7_begin : GoodIn wsX7_sign wsX7_begin := goodIn_r _ [77, 78, 79, 80, 4, 81, 10, 11, 12, 13, 6, 14, 15, 16, 17, 82, 83, 84, 25, 26, 27, 7, 8, 9, 56, 57, 58, 59, 60, 61, 62, 18, 19, 20, 21, 22, 23, 24, 28, 29, 30, 31, 32, 33, 34, 35, 85, 86, 87, 88, 89, 90, 91, 92, 71, 72, 73, 93, 94, 95, 52, 53, 54, 55, 96, 97, 98, 99, 100, 101, 102] (by decide +kernel) (by decide +kernel)
set_option maxRecDepth 20000 in
theorem gX7_sign_X7_begin : GoodIn wsX7_sign (wsV RX7 144 RX7 yX7_begin wsX7_begin) := goodIn_app (goodIn_of _ (by decide +kernel)) ggX7_sign_X7_begin
theorem dX7_sign_0 : decode cX7_sign 0 = .ok (.aload_n 0, 1) := by decide +kernel
theorem dX7_sign_1 : decode cX7_sign 1 = .ok (.iload_n 1, 1) := by decide +kernel
theorem dX7_sign_2 : decode cX7_sign 2 = .ok (.invokevirtual 131, 3) := by decide +kernel
theorem dX7_sign_5 : decode cX7_sign 5 = .ok (.ifCond .ne 19, 3) := by decide +kernel
theorem dX7_sign_8 : decode cX7_sign 8 = .ok (.iload_n 2, 1) := by decide +kernel
theorem dX7_sign_9 : decode cX7_sign 9 = .ok (.iconst 0, 1) := by decide +kernel
theorem dX7_sign_10 : decode cX7_sign 10 = .ok (.aload_n 0, 1) := by decide +kernel
theorem dX7_sign_11 : decode cX7_sign 11 = .ok (.iload_n 1, 1) := by decide +kernel
theorem dX7_sign_12 : decode cX7_sign 12 = .ok (.iconst 0, 1) := by decide +kernel
theorem dX7_sign_13 : decode cX7_sign 13 = .ok (.invokevirtual 46, 3) := by decide +kernel
theorem dX7_sign_16 : decode cX7_sign 16 = .ok (.iconst 1, 1) := by decide +kernel
theorem dX7_sign_17 : decode cX7_sign 17 = .ok (.isub, 1) := by decide +kernel
theorem dX7_sign_18 : decode cX7_sign 18 = .ok (.invokestatic 27, 3) := by decide +kernel
theorem dX7_sign_21 : decode cX7_sign 21 = .ok (.ifCond .ne 7, 3) := by decide +kernel
theorem dX7_sign_24 : decode cX7_sign 24 = .ok (.sipush (-1001), 3) := by decide +kernel
theorem dX7_sign_27 : decode cX7_sign 27 = .ok (.ireturn, 1) := by decide +kernel
theorem dX7_sign_28 : decode cX7_sign 28 = .ok (.aload_n 0, 1) := by decide +kernel
theorem dX7_sign_29 : decode cX7_sign 29 = .ok (.iload_n 1, 1) := by decide +kernel
theorem dX7_sign_30 : decode cX7_sign 30 = .ok (.iload_n 2, 1) := by decide +kernel
theorem dX7_sign_31 : decode cX7_sign 31 = .ok (.invokevirtual 49, 3) := by decide +kernel
theorem dX7_sign_34 : decode cX7_sign 34 = .ok (.istore 4, 2) := by decide +kernel
theorem dX7_sign_36 : decode cX7_sign 36 = .ok (.iload_n 3, 1) := by decide +kernel
theorem dX7_sign_37 : decode cX7_sign 37 = .ok (.iconst 3, 1) := by decide +kernel
theorem dX7_sign_38 : decode cX7_sign 38 = .ok (.iconst 4, 1) := by decide +kernel
theorem dX7_sign_39 : decode cX7_sign 39 = .ok (.invokestatic 27, 3) := by decide +kernel
theorem dX7_sign_42 : decode cX7_sign 42 = .ok (.ifCond .eq 59, 3) := by decide +kernel
theorem dX7_sign_45 : decode cX7_sign 45 = .ok (.iload_n 2, 1) := by decide +kernel
theorem dX7_sign_46 : decode cX7_sign 46 = .ok (.aload_n 0, 1) := by decide +kernel
theorem dX7_sign_47 : decode cX7_sign 47 = .ok (.iload_n 1, 1) := by decide +kernel
theorem dX7_sign_48 : decode cX7_sign 48 = .ok (.iconst 0, 1) := by decide +kernel
theorem dX7_sign_49 : decode cX7_sign 49 = .ok (.invokevirtual 46, 3) := by decide +kernel
theorem dX7_sign_52 : decode cX7_sign 52 = .ok (.iconst 1, 1) := by decide +kernel
theorem dX7_sign_53 : decode cX7_sign 53 = .ok (.isub, 1) := by decide +kernel
theorem dX7_sign_54 : decode cX7_sign 54 = .ok (.if_icmp .ne 7, 3) := by decide +kernel
theorem dX7_sign_57 : decode cX7_sign 57 = .ok (.sipush (-1005), 3) := by decide +kernel
theorem dX7_sign_60 : decode cX7_sign 60 = .ok (.ireturn, 1) := by decide +kernel
theorem dX7_sign_61 : decode cX7_sign 61 = .ok (.aload_n 0, 1) := by decide +kernel
theorem dX7_sign_62 : decode cX7_sign 62 = .ok (.iload_n 1, 1) := by decide +kernel
theorem dX7_sign_63 : decode cX7_sign 63 = .ok (.iload_n 2, 1) := by decide +kernel
theorem dX7_sign_64 : decode cX7_sign 64 = .ok (.iconst 1, 1) := by decide +kernel
theorem dX7_sign_65 : decode cX7_sign 65 = .ok (.iadd, 1) := by decide +kernel
theorem dX7_sign_66 : decode cX7_sign 66 = .ok (.invokevirtual 49, 3) := by decide +kernel
theorem dX7_sign_69 : decode cX7_sign 69 = .ok (.istore 5, 2) := by decide +kernel
theorem dX7_sign_71 : decode cX7_sign 71 = .ok (.aload_n 0, 1) := by decide +kernel
theorem dX7_sign_72 : decode cX7_sign 72 = .ok (.iload 4, 2) := by decide +kernel
theorem dX7_sign_74 : decode cX7_sign 74 = .ok (.iload 5, 2) := by decide +kernel
theorem dX7_sign_76 : decode cX7_sign 76 = .ok (.invokevirtual 55, 3) := by decide +kernel
theorem dX7_sign_79 : decode cX7_sign 79 = .ok (.iload_n 3, 1) := by decide +kernel
theorem dX7_sign_80 : decode cX7_sign 80 = .ok (.iconst 3, 1) := by decide +kernel
theorem dX7_sign_81 : decode cX7_sign 81 = .ok (.if_icmp .ne 7, 3) := by decide +kernel
theorem dX7_sign_84 : decode cX7_sign 84 = .ok (.iconst 0, 1) := by decide +kernel
theorem dX7_sign_85 : decode cX7_sign 85 = .ok (.goto 14, 3) := by decide +kernel
theorem dX7_sign_88 : decode cX7_sign 88 = .ok (.iload 4, 2) := by decide +kernel
theorem dX7_sign_90 : decode cX7_sign 90 = .ok (.invokestatic 39, 3) := by decide +kernel
theorem dX7_sign_93 : decode cX7_sign 93 = .ok (.iload 5, 2) := by decide +kernel
theorem dX7_sign_95 : decode cX7_sign 95 = .ok (.invokestatic 39, 3) := by decide +kernel
theorem dX7_sign_98 : decode cX7_sign 98 = .ok (.iadd, 1) := by decide +kernel
theorem dX7_sign_99 : decode cX7_sign 99 = .ok (.iadd, 1) := by decide +kernel
theorem dX7_sign_100 : decode cX7_sign 100 = .ok (.ireturn, 1) := by decide +kernel
theorem dX7_sign_101 : decode cX7_sign 101 = .ok (.aload_n 0, 1) := by decide +kernel
theorem dX7_sign_102 : decode cX7_sign 102 = .ok (.invokevirtual 134, 3) := by decide +kernel
theorem dX7_sign_105 : decode cX7_sign 105 = .ok (.istore 5, 2) := by decide +kernel
theorem dX7_sign_107 : decode cX7_sign 107 = .ok (.iload_n 3, 1) := by decide +kernel
theorem dX7_sign_108 : decode cX7_sign 108 = .ok (.tableswitch 85 0 5 #[40, 43, 50, 85, 85, 56], 40) := by decide +kernel
theorem dX7_sign_148 : decode cX7_sign 148 = .ok (.iload 4, 2) := by decide +kernel
theorem dX7_sign_150 : decode cX7_sign 150 = .ok (.ireturn, 1) := by decide +kernel
theorem dX7_sign_151 : decode cX7_sign 151 = .ok (.aload_n 0, 1) := by decide +kernel
theorem dX7_sign_152 : decode cX7_sign 152 = .ok (.iload_n 1, 1) := by decide +kernel
theorem dX7_sign_153 : decode cX7_sign 153 = .ok (.iload_n 2, 1) := by decide +kernel
theorem dX7_sign_154 : decode cX7_sign 154 = .ok (.invokevirtual 58, 3) := by decide +kernel
theorem dX7_sign_157 : decode cX7_sign 157 = .ok (.ireturn, 1) := by decide +kernel
theorem dX7_sign_158 : decode cX7_sign 158 = .ok (.iload 4, 2) := by decide +kernel
theorem dX7_sign_160 : decode cX7_sign 160 = .ok (.invokestatic 52, 3) := by decide +kernel
theorem dX7_sign_163 : decode cX7_sign 163 = .ok (.ireturn, 1) := by decide +kernel
theorem dX7_sign_164 : decode cX7_sign 164 = .ok (.iload 5, 2) := by decide +kernel
theorem dX7_sign_166 : decode cX7_sign 166 = .ok (.ifCond .ne 9, 3) := by decide +kernel
theorem dX7_sign_169 : decode cX7_sign 169 = .ok (.sipush (-1005), 3) := by decide +kernel
theorem dX7_sign_172 : decode cX7_sign 172 = .ok (.goto 20, 3) := by decide +kernel
theorem dX7_sign_175 : decode cX7_sign 175 = .ok (.aload_n 0, 1) := by decide +kernel
theorem dX7_sign_176 : decode cX7_sign 176 = .ok (.iload_n 1, 1) := by decide +kernel
theorem dX7_sign_177 : decode cX7_sign 177 = .ok (.iload 5, 2) := by decide +kernel
theorem dX7_sign_179 : decode cX7_sign 179 = .ok (.invokevirtual 144, 3) := by decide +kernel
theorem dX7_sign_182 : decode cX7_sign 182 = .ok (.iload 5, 2) := by decide +kernel
theorem dX7_sign_184 : decode cX7_sign 184 = .ok (.aload_n 0, 1) := by decide +kernel
theorem dX7_sign_185 : decode cX7_sign 185 = .ok (.iload_n 1, 1) := by decide +kernel
theorem dX7_sign_186 : decode cX7_sign 186 = .ok (.iload_n 2, 1) := by decide +kernel
theorem dX7_sign_187 : decode cX7_sign 187 = .ok (.invokevirtual 58, 3) := by decide +kernel
theorem dX7_sign_190 : decode cX7_sign 190 = .ok (.imul, 1) := by decide +kernel
theorem dX7_sign_191 : decode cX7_sign 191 = .ok (.iadd, 1) := by decide +kernel
theorem dX7_sign_192 : decode cX7_sign 192 = .ok (.ireturn, 1) := by decide +kernel
theorem dX7_sign_193 : decode cX7_sign 193 = .ok (.sipush (-1002), 3) := by decide +kernel
theorem dX7_sign_196 : decode cX7_sign 196 = .ok (.ireturn, 1) := by decide +kernel
set_option maxRecDepth 20000 in
theorem ggX7_signAt_X7_size : GoodIn wsX7_signAt wsX7_size := goodIn_r _ [6, 1, 7, 8, 9, 5, 10, 11, 12, 13, 14, 15, 16, 17, 18, 19, 20, 21, 22, 23, 24, 25, 26, 27, 28, 29, 30, 31, 32, 33, 34, 35, 36, 37, 38, 39, 40, 41, 42, 43, 44, 45, 46, 47, 48, 49, 50, 51, 52, 53, 54, 55, 56, 57, 58, 59, 60, 61, 62, 63, 64, 65, 66, 67, 68, 69, 96, 97, 98, 99, 100, 101, 102] (by decide +kernel) (by decide +kernel)
set_option maxRecDepth 20000 in
theorem gX7_signAt_X7_size : GoodIn wsX7_signAt (wsV RX7 134 RX7 yX7_size wsX7_size) := goodIn_app (goodIn_of _ (by decide +kernel)) ggX7_signAt_X7_size
set_option maxRecDepth 20000 in
theorem ggX7_signAt_X7_rowOf : GoodIn wsX7_signAt wsX7_rowOf := goodIn_r _ [73, 1, 96, 97, 98, 99, 100, 101, 102] (by decide +kernel) (by decide +kernel)
set_option maxRecDepth 20000 in
theorem gX7_signAt_X7_rowOf : GoodIn wsX7_signAt (wsV RX7 91 RX7 yX7_rowOf wsX7_rowOf) := goodIn_app (goodIn_of _ (by decide +kernel)) ggX7_signAt_X7_rowOf
set_option maxRecDepth 20000 in
theorem ggX7_signAt_X7_begin : GoodIn wsX7_signAt wsX7_begin := goodIn_r _ [77, 78, 79, 80, 5, 81, 11, 12, 13, 14, 1, 31, 32, 33, 34, 82, 83, 84, 38, 39, 40, 41, 42, 43, 27, 28, 29, 30, 35, 36, 37, 44, 45, 46, 47, 48, 49, 50, 51, 52, 53, 54, 55, 56, 57, 58, 85, 86, 87, 88, 89, 90, 91, 92, 67, 68, 69, 93, 94, 95, 23, 24, 25, 26, 96, 97, 98, 99, 100, 101, 102] (by decide +kernel) (by decide +kernel)
set_option maxRecDepth 20000 in
theorem gX7_signAt_X7_begin : GoodIn wsX7_signAt (wsV RX7 144 RX7 yX7_begin wsX7_begin) := goodIn_app (goodIn_of _ (by decide +kernel)) ggX7_signAt_X7_begin
set_option maxRecDepth 20000 in
theorem ggX7_signAt_X7_of : GoodIn wsX7_signAt wsX7_of := goodIn_r _ [14, 1, 96, 97, 98, 99, 100, 101, 102] (by decide +kernel) (by decide +kernel)
set_option maxRecDepth 20000 in
theorem gX7_signAt_X7_of : GoodIn wsX7_signAt (wsV RX7 46 RX7 yX7_of wsX7_of) := goodIn_app (goodIn_of _ (by decide +kernel)) ggX7_signAt_X7_of
set_option maxRecDepth 20000 in
theorem ggX7_signAt_X7_in : GoodIn wsX7_signAt wsX7_in := goodIn_r _ [43] (by decide +kernel) (by decide +kernel)
set_option maxRecDepth 20000 in
theorem gX7_signAt_X7_in : GoodIn wsX7_signAt (va_wsS RX7 27 yX7_in wsX7_in) := goodIn_app (goodIn_of _ (by decide +kernel)) ggX7_signAt_X7_in
set_option maxRecDepth 20000 in
theorem ggX7_signAt_X7_unitsTo : GoodIn wsX7_signAt wsX7_unitsTo := goodIn_r _ [30, 31, 32, 33, 5, 34, 11, 12, 13, 14, 1, 35, 36, 37, 38, 39, 40, 41, 42, 43, 44, 45, 46, 47, 48, 49, 50, 51, 52, 53, 54, 55, 56, 57, 58, 96, 97, 98, 99, 100, 101, 102] (by decide +kernel) (by decide +kernel)
set_option maxRecDepth 20000 in
theorem gX7_signAt_X7_unitsTo : GoodIn wsX7_signAt (wsV RX7 58 RX7 yX7_unitsTo wsX7_unitsTo) := goodIn_app (goodIn_of _ (by decide +kernel)) ggX7_signAt_X7_unitsTo
set_option maxRecDepth 20000 in
theorem ggX7_signAt_X7_signOf : GoodIn wsX7_signAt wsX7_signOf := goodIn_r _ [34, 11, 12, 13, 5, 14, 1, 96, 97, 98, 99, 100, 101, 102] (by decide +kernel) (by decide +kernel)
set_option maxRecDepth 20000 in
theorem gX7_signAt_X7_signOf : GoodIn wsX7_signAt (wsV RX7 49 RX7 yX7_signOf wsX7_signOf) := goodIn_app (goodIn_of _ (by decide +kernel)) ggX7_signAt_X7_signOf
set_option maxRecDepth 20000 in
theorem ggX7_signAt_X7_wide : GoodIn wsX7_signAt wsX7_wide := goodIn_r _ [37, 38, 39, 5, 40, 41, 42, 43] (by decide +kernel) (by decide +kernel)
set_option maxRecDepth 20000 in
theorem gX7_signAt_X7_wide : GoodIn wsX7_signAt (va_wsS RX7 52 yX7_wide wsX7_wide) := goodIn_app (goodIn_of _ (by decide +kernel)) ggX7_signAt_X7_wide
theorem dX7_signAt_0 : decode cX7_signAt 0 = .ok (.iload_n 1, 1) := by decide +kernel
theorem dX7_signAt_1 : decode cX7_signAt 1 = .ok (.ifCond .lt 7, 3) := by decide +kernel
theorem dX7_signAt_4 : decode cX7_signAt 4 = .ok (.iload_n 2, 1) := by decide +kernel
theorem dX7_signAt_5 : decode cX7_signAt 5 = .ok (.ifCond .ge 7, 3) := by decide +kernel
theorem dX7_signAt_8 : decode cX7_signAt 8 = .ok (.sipush (-1002), 3) := by decide +kernel
theorem dX7_signAt_11 : decode cX7_signAt 11 = .ok (.ireturn, 1) := by decide +kernel
theorem dX7_signAt_12 : decode cX7_signAt 12 = .ok (.aload_n 0, 1) := by decide +kernel
theorem dX7_signAt_13 : decode cX7_signAt 13 = .ok (.invokevirtual 134, 3) := by decide +kernel
theorem dX7_signAt_16 : decode cX7_signAt 16 = .ok (.istore_n 3, 1) := by decide +kernel
theorem dX7_signAt_17 : decode cX7_signAt 17 = .ok (.iconst 0, 1) := by decide +kernel
theorem dX7_signAt_18 : decode cX7_signAt 18 = .ok (.istore 4, 2) := by decide +kernel
theorem dX7_signAt_20 : decode cX7_signAt 20 = .ok (.iload 4, 2) := by decide +kernel
theorem dX7_signAt_22 : decode cX7_signAt 22 = .ok (.aload_n 0, 1) := by decide +kernel
theorem dX7_signAt_23 : decode cX7_signAt 23 = .ok (.getfield 7, 3) := by decide +kernel
theorem dX7_signAt_26 : decode cX7_signAt 26 = .ok (.iconst 4, 1) := by decide +kernel
theorem dX7_signAt_27 : decode cX7_signAt 27 = .ok (.iaload, 1) := by decide +kernel
theorem dX7_signAt_28 : decode cX7_signAt 28 = .ok (.if_icmp .ge 132, 3) := by decide +kernel
theorem dX7_signAt_31 : decode cX7_signAt 31 = .ok (.iload_n 3, 1) := by decide +kernel
theorem dX7_signAt_32 : decode cX7_signAt 32 = .ok (.ifCond .le 128, 3) := by decide +kernel
theorem dX7_signAt_35 : decode cX7_signAt 35 = .ok (.aload_n 0, 1) := by decide +kernel
theorem dX7_signAt_36 : decode cX7_signAt 36 = .ok (.getfield 7, 3) := by decide +kernel
theorem dX7_signAt_39 : decode cX7_signAt 39 = .ok (.iconst 2, 1) := by decide +kernel
theorem dX7_signAt_40 : decode cX7_signAt 40 = .ok (.iaload, 1) := by decide +kernel
theorem dX7_signAt_41 : decode cX7_signAt 41 = .ok (.bipush 12, 2) := by decide +kernel
theorem dX7_signAt_43 : decode cX7_signAt 43 = .ok (.iload_n 3, 1) := by decide +kernel
theorem dX7_signAt_44 : decode cX7_signAt 44 = .ok (.imul, 1) := by decide +kernel
theorem dX7_signAt_45 : decode cX7_signAt 45 = .ok (.aload_n 0, 1) := by decide +kernel
theorem dX7_signAt_46 : decode cX7_signAt 46 = .ok (.iload 4, 2) := by decide +kernel
theorem dX7_signAt_48 : decode cX7_signAt 48 = .ok (.invokevirtual 91, 3) := by decide +kernel
theorem dX7_signAt_51 : decode cX7_signAt 51 = .ok (.imul, 1) := by decide +kernel
theorem dX7_signAt_52 : decode cX7_signAt 52 = .ok (.iadd, 1) := by decide +kernel
theorem dX7_signAt_53 : decode cX7_signAt 53 = .ok (.istore 5, 2) := by decide +kernel
theorem dX7_signAt_55 : decode cX7_signAt 55 = .ok (.aload_n 0, 1) := by decide +kernel
theorem dX7_signAt_56 : decode cX7_signAt 56 = .ok (.iload 4, 2) := by decide +kernel
theorem dX7_signAt_58 : decode cX7_signAt 58 = .ok (.iload_n 3, 1) := by decide +kernel
theorem dX7_signAt_59 : decode cX7_signAt 59 = .ok (.invokevirtual 144, 3) := by decide +kernel
theorem dX7_signAt_62 : decode cX7_signAt 62 = .ok (.istore 6, 2) := by decide +kernel
theorem dX7_signAt_64 : decode cX7_signAt 64 = .ok (.iconst 0, 1) := by decide +kernel
theorem dX7_signAt_65 : decode cX7_signAt 65 = .ok (.istore 7, 2) := by decide +kernel
theorem dX7_signAt_67 : decode cX7_signAt 67 = .ok (.iload 7, 2) := by decide +kernel
theorem dX7_signAt_69 : decode cX7_signAt 69 = .ok (.aload_n 0, 1) := by decide +kernel
theorem dX7_signAt_70 : decode cX7_signAt 70 = .ok (.iload 4, 2) := by decide +kernel
theorem dX7_signAt_72 : decode cX7_signAt 72 = .ok (.iconst 0, 1) := by decide +kernel
theorem dX7_signAt_73 : decode cX7_signAt 73 = .ok (.invokevirtual 46, 3) := by decide +kernel
theorem dX7_signAt_76 : decode cX7_signAt 76 = .ok (.if_icmp .ge 78, 3) := by decide +kernel
theorem dX7_signAt_79 : decode cX7_signAt 79 = .ok (.iload_n 2, 1) := by decide +kernel
theorem dX7_signAt_80 : decode cX7_signAt 80 = .ok (.iload 5, 2) := by decide +kernel
theorem dX7_signAt_82 : decode cX7_signAt 82 = .ok (.iload 5, 2) := by decide +kernel
theorem dX7_signAt_84 : decode cX7_signAt 84 = .ok (.bipush 12, 2) := by decide +kernel
theorem dX7_signAt_86 : decode cX7_signAt 86 = .ok (.iload_n 3, 1) := by decide +kernel
theorem dX7_signAt_87 : decode cX7_signAt 87 = .ok (.imul, 1) := by decide +kernel
theorem dX7_signAt_88 : decode cX7_signAt 88 = .ok (.iadd, 1) := by decide +kernel
theorem dX7_signAt_89 : decode cX7_signAt 89 = .ok (.iconst 1, 1) := by decide +kernel
theorem dX7_signAt_90 : decode cX7_signAt 90 = .ok (.isub, 1) := by decide +kernel
theorem dX7_signAt_91 : decode cX7_signAt 91 = .ok (.invokestatic 27, 3) := by decide +kernel
theorem dX7_signAt_94 : decode cX7_signAt 94 = .ok (.ifCond .eq 60, 3) := by decide +kernel
theorem dX7_signAt_97 : decode cX7_signAt 97 = .ok (.iload 6, 2) := by decide +kernel
theorem dX7_signAt_99 : decode cX7_signAt 99 = .ok (.iload_n 3, 1) := by decide +kernel
theorem dX7_signAt_100 : decode cX7_signAt 100 = .ok (.aload_n 0, 1) := by decide +kernel
theorem dX7_signAt_101 : decode cX7_signAt 101 = .ok (.iload 4, 2) := by decide +kernel
theorem dX7_signAt_103 : decode cX7_signAt 103 = .ok (.iload 7, 2) := by decide +kernel
theorem dX7_signAt_105 : decode cX7_signAt 105 = .ok (.invokevirtual 58, 3) := by decide +kernel
theorem dX7_signAt_108 : decode cX7_signAt 108 = .ok (.imul, 1) := by decide +kernel
theorem dX7_signAt_109 : decode cX7_signAt 109 = .ok (.iadd, 1) := by decide +kernel
theorem dX7_signAt_110 : decode cX7_signAt 110 = .ok (.istore 8, 2) := by decide +kernel
theorem dX7_signAt_112 : decode cX7_signAt 112 = .ok (.iload_n 1, 1) := by decide +kernel
theorem dX7_signAt_113 : decode cX7_signAt 113 = .ok (.iload 8, 2) := by decide +kernel
theorem dX7_signAt_115 : decode cX7_signAt 115 = .ok (.iload 8, 2) := by decide +kernel
theorem dX7_signAt_117 : decode cX7_signAt 117 = .ok (.iload_n 3, 1) := by decide +kernel
theorem dX7_signAt_118 : decode cX7_signAt 118 = .ok (.aload_n 0, 1) := by decide +kernel
theorem dX7_signAt_119 : decode cX7_signAt 119 = .ok (.iload 4, 2) := by decide +kernel
theorem dX7_signAt_121 : decode cX7_signAt 121 = .ok (.iload 7, 2) := by decide +kernel
theorem dX7_signAt_123 : decode cX7_signAt 123 = .ok (.invokevirtual 49, 3) := by decide +kernel
theorem dX7_signAt_126 : decode cX7_signAt 126 = .ok (.invokestatic 52, 3) := by decide +kernel
theorem dX7_signAt_129 : decode cX7_signAt 129 = .ok (.imul, 1) := by decide +kernel
theorem dX7_signAt_130 : decode cX7_signAt 130 = .ok (.iadd, 1) := by decide +kernel
theorem dX7_signAt_131 : decode cX7_signAt 131 = .ok (.iconst 1, 1) := by decide +kernel
theorem dX7_signAt_132 : decode cX7_signAt 132 = .ok (.isub, 1) := by decide +kernel
theorem dX7_signAt_133 : decode cX7_signAt 133 = .ok (.invokestatic 27, 3) := by decide +kernel
theorem dX7_signAt_136 : decode cX7_signAt 136 = .ok (.ifCond .eq 12, 3) := by decide +kernel
theorem dX7_signAt_139 : decode cX7_signAt 139 = .ok (.bipush 100, 2) := by decide +kernel
theorem dX7_signAt_141 : decode cX7_signAt 141 = .ok (.iload 4, 2) := by decide +kernel
theorem dX7_signAt_143 : decode cX7_signAt 143 = .ok (.imul, 1) := by decide +kernel
theorem dX7_signAt_144 : decode cX7_signAt 144 = .ok (.iload 7, 2) := by decide +kernel
theorem dX7_signAt_146 : decode cX7_signAt 146 = .ok (.iadd, 1) := by decide +kernel
theorem dX7_signAt_147 : decode cX7_signAt 147 = .ok (.ireturn, 1) := by decide +kernel
theorem dX7_signAt_148 : decode cX7_signAt 148 = .ok (.iinc 7 1, 3) := by decide +kernel
theorem dX7_signAt_151 : decode cX7_signAt 151 = .ok (.goto (-84), 3) := by decide +kernel
theorem dX7_signAt_154 : decode cX7_signAt 154 = .ok (.iinc 4 1, 3) := by decide +kernel
theorem dX7_signAt_157 : decode cX7_signAt 157 = .ok (.goto (-137), 3) := by decide +kernel
theorem dX7_signAt_160 : decode cX7_signAt 160 = .ok (.sipush (-1005), 3) := by decide +kernel
theorem dX7_signAt_163 : decode cX7_signAt 163 = .ok (.ireturn, 1) := by decide +kernel
set_option maxRecDepth 20000 in
theorem ggX7_sizeBy_X7_in : GoodIn wsX7_sizeBy wsX7_in := goodIn_r _ [4] (by decide +kernel) (by decide +kernel)
set_option maxRecDepth 20000 in
theorem gX7_sizeBy_X7_in : GoodIn wsX7_sizeBy (va_wsS RX7 27 yX7_in wsX7_in) := goodIn_app (goodIn_of _ (by decide +kernel)) ggX7_sizeBy_X7_in
set_option maxRecDepth 20000 in
theorem ggX7_sizeBy_X7_free : GoodIn wsX7_sizeBy wsX7_free := goodIn_r _ [8, 9, 10, 11, 12, 3, 13, 14, 15, 16, 17, 18, 19, 20, 21, 22, 23, 24, 25, 26, 27, 28, 29, 30, 31, 32, 33, 34, 35, 1, 2, 4, 36, 37, 38, 39, 40, 41, 42, 43, 44, 45, 46, 47, 48, 49, 50, 51, 52, 53, 54, 55, 56, 57, 58, 59, 60, 61, 62, 63, 64, 65, 66, 67, 68] (by decide +kernel) (by decide +kernel)
set_option maxRecDepth 20000 in
theorem gX7_sizeBy_X7_free : GoodIn wsX7_sizeBy (wsV RX7 85 RX7 yX7_free wsX7_free) := goodIn_app (goodIn_of _ (by decide +kernel)) ggX7_sizeBy_X7_free
theorem dX7_sizeBy_0 : decode cX7_sizeBy 0 = .ok (.iload_n 1, 1) := by decide +kernel
theorem dX7_sizeBy_1 : decode cX7_sizeBy 1 = .ok (.sipush 300, 3) := by decide +kernel
theorem dX7_sizeBy_4 : decode cX7_sizeBy 4 = .ok (.sipush 6000, 3) := by decide +kernel
theorem dX7_sizeBy_7 : decode cX7_sizeBy 7 = .ok (.invokestatic 27, 3) := by decide +kernel
theorem dX7_sizeBy_10 : decode cX7_sizeBy 10 = .ok (.ifCond .eq 24, 3) := by decide +kernel
theorem dX7_sizeBy_13 : decode cX7_sizeBy 13 = .ok (.iload_n 2, 1) := by decide +kernel
theorem dX7_sizeBy_14 : decode cX7_sizeBy 14 = .ok (.bipush 100, 2) := by decide +kernel
theorem dX7_sizeBy_16 : decode cX7_sizeBy 16 = .ok (.sipush 3000, 3) := by decide +kernel
theorem dX7_sizeBy_19 : decode cX7_sizeBy 19 = .ok (.invokestatic 27, 3) := by decide +kernel
theorem dX7_sizeBy_22 : decode cX7_sizeBy 22 = .ok (.ifCond .eq 12, 3) := by decide +kernel
theorem dX7_sizeBy_25 : decode cX7_sizeBy 25 = .ok (.aload_n 0, 1) := by decide +kernel
theorem dX7_sizeBy_26 : decode cX7_sizeBy 26 = .ok (.iload_n 1, 1) := by decide +kernel
theorem dX7_sizeBy_27 : decode cX7_sizeBy 27 = .ok (.iload_n 2, 1) := by decide +kernel
theorem dX7_sizeBy_28 : decode cX7_sizeBy 28 = .ok (.invokevirtual 85, 3) := by decide +kernel
theorem dX7_sizeBy_31 : decode cX7_sizeBy 31 = .ok (.goto 6, 3) := by decide +kernel
theorem dX7_sizeBy_34 : decode cX7_sizeBy 34 = .ok (.sipush (-1002), 3) := by decide +kernel
theorem dX7_sizeBy_37 : decode cX7_sizeBy 37 = .ok (.ireturn, 1) := by decide +kernel
set_option maxRecDepth 20000 in
theorem ggX7_sizeWithout_X7_noSeat : GoodIn wsX7_sizeWithout wsX7_noSeat := goodIn_r _ [6, 1, 7, 8, 5, 9, 62, 63, 64, 65, 66, 67, 68] (by decide +kernel) (by decide +kernel)
set_option maxRecDepth 20000 in
theorem gX7_sizeWithout_X7_noSeat : GoodIn wsX7_sizeWithout (wsV RX7 131 RX7 yX7_noSeat wsX7_noSeat) := goodIn_app (goodIn_of _ (by decide +kernel)) ggX7_sizeWithout_X7_noSeat
set_option maxRecDepth 20000 in
theorem ggX7_sizeWithout_X7_mostUnits : GoodIn wsX7_sizeWithout wsX7_mostUnits := goodIn_r _ [13, 1, 14, 15, 16, 5, 17, 18, 19, 20, 21, 22, 23, 24, 25, 26, 27, 28, 29, 30, 31, 32, 33, 34, 35, 7, 8, 9, 36, 37, 38, 39, 40, 41, 42, 43, 44, 45, 46, 47, 48, 49, 50, 62, 63, 64, 65, 66, 67, 68] (by decide +kernel) (by decide +kernel)
set_option maxRecDepth 20000 in
theorem gX7_sizeWithout_X7_mostUnits : GoodIn wsX7_sizeWithout (wsV RX7 71 RX7 yX7_mostUnits wsX7_mostUnits) := goodIn_app (goodIn_of _ (by decide +kernel)) ggX7_sizeWithout_X7_mostUnits
set_option maxRecDepth 20000 in
theorem ggX7_sizeWithout_X7_rowsOf : GoodIn wsX7_sizeWithout wsX7_rowsOf := goodIn_r _ [54, 1, 62, 63, 64, 65, 66, 67, 68] (by decide +kernel) (by decide +kernel)
set_option maxRecDepth 20000 in
theorem gX7_sizeWithout_X7_rowsOf : GoodIn wsX7_sizeWithout (wsV RX7 74 RX7 yX7_rowsOf wsX7_rowsOf) := goodIn_app (goodIn_of _ (by decide +kernel)) ggX7_sizeWithout_X7_rowsOf
set_option maxRecDepth 20000 in
theorem ggX7_sizeWithout_X7_greatest : GoodIn wsX7_sizeWithout wsX7_greatest := goodIn_r _ [58, 1, 59, 60, 5, 61, 62, 63, 64, 65, 66, 67, 68] (by decide +kernel) (by decide +kernel)
set_option maxRecDepth 20000 in
theorem gX7_sizeWithout_X7_greatest : GoodIn wsX7_sizeWithout (wsV RX7 77 RX7 yX7_greatest wsX7_greatest) := goodIn_app (goodIn_of _ (by decide +kernel)) ggX7_sizeWithout_X7_greatest
theorem dX7_sizeWithout_0 : decode cX7_sizeWithout 0 = .ok (.aload_n 0, 1) := by decide +kernel
theorem dX7_sizeWithout_1 : decode cX7_sizeWithout 1 = .ok (.iload_n 1, 1) := by decide +kernel
theorem dX7_sizeWithout_2 : decode cX7_sizeWithout 2 = .ok (.invokevirtual 131, 3) := by decide +kernel
theorem dX7_sizeWithout_5 : decode cX7_sizeWithout 5 = .ok (.ifCond .eq 7, 3) := by decide +kernel
theorem dX7_sizeWithout_8 : decode cX7_sizeWithout 8 = .ok (.sipush (-1001), 3) := by decide +kernel
theorem dX7_sizeWithout_11 : decode cX7_sizeWithout 11 = .ok (.ireturn, 1) := by decide +kernel
theorem dX7_sizeWithout_12 : decode cX7_sizeWithout 12 = .ok (.aload_n 0, 1) := by decide +kernel
theorem dX7_sizeWithout_13 : decode cX7_sizeWithout 13 = .ok (.aload_n 0, 1) := by decide +kernel
theorem dX7_sizeWithout_14 : decode cX7_sizeWithout 14 = .ok (.iload_n 1, 1) := by decide +kernel
theorem dX7_sizeWithout_15 : decode cX7_sizeWithout 15 = .ok (.invokevirtual 71, 3) := by decide +kernel
theorem dX7_sizeWithout_18 : decode cX7_sizeWithout 18 = .ok (.aload_n 0, 1) := by decide +kernel
theorem dX7_sizeWithout_19 : decode cX7_sizeWithout 19 = .ok (.aload_n 0, 1) := by decide +kernel
theorem dX7_sizeWithout_20 : decode cX7_sizeWithout 20 = .ok (.getfield 7, 3) := by decide +kernel
theorem dX7_sizeWithout_23 : decode cX7_sizeWithout 23 = .ok (.iconst 4, 1) := by decide +kernel
theorem dX7_sizeWithout_24 : decode cX7_sizeWithout 24 = .ok (.iaload, 1) := by decide +kernel
theorem dX7_sizeWithout_25 : decode cX7_sizeWithout 25 = .ok (.iconst 1, 1) := by decide +kernel
theorem dX7_sizeWithout_26 : decode cX7_sizeWithout 26 = .ok (.isub, 1) := by decide +kernel
theorem dX7_sizeWithout_27 : decode cX7_sizeWithout 27 = .ok (.invokevirtual 74, 3) := by decide +kernel
theorem dX7_sizeWithout_30 : decode cX7_sizeWithout 30 = .ok (.aload_n 0, 1) := by decide +kernel
theorem dX7_sizeWithout_31 : decode cX7_sizeWithout 31 = .ok (.getfield 7, 3) := by decide +kernel
theorem dX7_sizeWithout_34 : decode cX7_sizeWithout 34 = .ok (.iconst 0, 1) := by decide +kernel
theorem dX7_sizeWithout_35 : decode cX7_sizeWithout 35 = .ok (.iaload, 1) := by decide +kernel
theorem dX7_sizeWithout_36 : decode cX7_sizeWithout 36 = .ok (.aload_n 0, 1) := by decide +kernel
theorem dX7_sizeWithout_37 : decode cX7_sizeWithout 37 = .ok (.getfield 7, 3) := by decide +kernel
theorem dX7_sizeWithout_40 : decode cX7_sizeWithout 40 = .ok (.iconst 1, 1) := by decide +kernel
theorem dX7_sizeWithout_41 : decode cX7_sizeWithout 41 = .ok (.iaload, 1) := by decide +kernel
theorem dX7_sizeWithout_42 : decode cX7_sizeWithout 42 = .ok (.invokevirtual 77, 3) := by decide +kernel
theorem dX7_sizeWithout_45 : decode cX7_sizeWithout 45 = .ok (.ireturn, 1) := by decide +kernel
set_option maxRecDepth 20000 in
theorem ggX7_leastWidth_X7_in : GoodIn wsX7_leastWidth wsX7_in := goodIn_r _ [5] (by decide +kernel) (by decide +kernel)
set_option maxRecDepth 20000 in
theorem gX7_leastWidth_X7_in : GoodIn wsX7_leastWidth (va_wsS RX7 27 yX7_in wsX7_in) := goodIn_app (goodIn_of _ (by decide +kernel)) ggX7_leastWidth_X7_in
set_option maxRecDepth 20000 in
theorem ggX7_leastWidth_X7_mostUnits : GoodIn wsX7_leastWidth wsX7_mostUnits := goodIn_r _ [9, 1, 10, 11, 12, 4, 13, 14, 15, 16, 17, 18, 19, 20, 21, 22, 23, 24, 25, 26, 27, 28, 29, 30, 31, 2, 3, 5, 32, 33, 34, 35, 36, 37, 38, 39, 40, 41, 42, 43, 44, 45, 46, 47, 48, 49, 50, 51, 52, 53] (by decide +kernel) (by decide +kernel)
set_option maxRecDepth 20000 in
theorem gX7_leastWidth_X7_mostUnits : GoodIn wsX7_leastWidth (wsV RX7 71 RX7 yX7_mostUnits wsX7_mostUnits) := goodIn_app (goodIn_of _ (by decide +kernel)) ggX7_leastWidth_X7_mostUnits
theorem dX7_leastWidth_0 : decode cX7_leastWidth 0 = .ok (.iload_n 1, 1) := by decide +kernel
theorem dX7_leastWidth_1 : decode cX7_leastWidth 1 = .ok (.iconst 1, 1) := by decide +kernel
theorem dX7_leastWidth_2 : decode cX7_leastWidth 2 = .ok (.bipush 40, 2) := by decide +kernel
theorem dX7_leastWidth_4 : decode cX7_leastWidth 4 = .ok (.invokestatic 27, 3) := by decide +kernel
theorem dX7_leastWidth_7 : decode cX7_leastWidth 7 = .ok (.ifCond .ne 7, 3) := by decide +kernel
theorem dX7_leastWidth_10 : decode cX7_leastWidth 10 = .ok (.sipush (-1002), 3) := by decide +kernel
theorem dX7_leastWidth_13 : decode cX7_leastWidth 13 = .ok (.ireturn, 1) := by decide +kernel
theorem dX7_leastWidth_14 : decode cX7_leastWidth 14 = .ok (.aload_n 0, 1) := by decide +kernel
theorem dX7_leastWidth_15 : decode cX7_leastWidth 15 = .ok (.getfield 7, 3) := by decide +kernel
theorem dX7_leastWidth_18 : decode cX7_leastWidth 18 = .ok (.iconst 4, 1) := by decide +kernel
theorem dX7_leastWidth_19 : decode cX7_leastWidth 19 = .ok (.iaload, 1) := by decide +kernel
theorem dX7_leastWidth_20 : decode cX7_leastWidth 20 = .ok (.ifCond .ne 7, 3) := by decide +kernel
theorem dX7_leastWidth_23 : decode cX7_leastWidth 23 = .ok (.sipush (-1005), 3) := by decide +kernel
theorem dX7_leastWidth_26 : decode cX7_leastWidth 26 = .ok (.ireturn, 1) := by decide +kernel
theorem dX7_leastWidth_27 : decode cX7_leastWidth 27 = .ok (.aload_n 0, 1) := by decide +kernel
theorem dX7_leastWidth_28 : decode cX7_leastWidth 28 = .ok (.sipush (-1005), 3) := by decide +kernel
theorem dX7_leastWidth_31 : decode cX7_leastWidth 31 = .ok (.invokevirtual 71, 3) := by decide +kernel
theorem dX7_leastWidth_34 : decode cX7_leastWidth 34 = .ok (.iload_n 1, 1) := by decide +kernel
theorem dX7_leastWidth_35 : decode cX7_leastWidth 35 = .ok (.imul, 1) := by decide +kernel
theorem dX7_leastWidth_36 : decode cX7_leastWidth 36 = .ok (.aload_n 0, 1) := by decide +kernel
theorem dX7_leastWidth_37 : decode cX7_leastWidth 37 = .ok (.getfield 7, 3) := by decide +kernel
theorem dX7_leastWidth_40 : decode cX7_leastWidth 40 = .ok (.iconst 3, 1) := by decide +kernel
theorem dX7_leastWidth_41 : decode cX7_leastWidth 41 = .ok (.iaload, 1) := by decide +kernel
theorem dX7_leastWidth_42 : decode cX7_leastWidth 42 = .ok (.imul, 1) := by decide +kernel
theorem dX7_leastWidth_43 : decode cX7_leastWidth 43 = .ok (.iconst 2, 1) := by decide +kernel
theorem dX7_leastWidth_44 : decode cX7_leastWidth 44 = .ok (.aload_n 0, 1) := by decide +kernel
theorem dX7_leastWidth_45 : decode cX7_leastWidth 45 = .ok (.getfield 7, 3) := by decide +kernel
theorem dX7_leastWidth_48 : decode cX7_leastWidth 48 = .ok (.iconst 2, 1) := by decide +kernel
theorem dX7_leastWidth_49 : decode cX7_leastWidth 49 = .ok (.iaload, 1) := by decide +kernel
theorem dX7_leastWidth_50 : decode cX7_leastWidth 50 = .ok (.imul, 1) := by decide +kernel
theorem dX7_leastWidth_51 : decode cX7_leastWidth 51 = .ok (.iadd, 1) := by decide +kernel
theorem dX7_leastWidth_52 : decode cX7_leastWidth 52 = .ok (.istore_n 2, 1) := by decide +kernel
theorem dX7_leastWidth_53 : decode cX7_leastWidth 53 = .ok (.iload_n 2, 1) := by decide +kernel
theorem dX7_leastWidth_54 : decode cX7_leastWidth 54 = .ok (.sipush 300, 3) := by decide +kernel
theorem dX7_leastWidth_57 : decode cX7_leastWidth 57 = .ok (.if_icmp .ge 9, 3) := by decide +kernel
theorem dX7_leastWidth_60 : decode cX7_leastWidth 60 = .ok (.sipush 300, 3) := by decide +kernel
theorem dX7_leastWidth_63 : decode cX7_leastWidth 63 = .ok (.goto 4, 3) := by decide +kernel
theorem dX7_leastWidth_66 : decode cX7_leastWidth 66 = .ok (.iload_n 2, 1) := by decide +kernel
theorem dX7_leastWidth_67 : decode cX7_leastWidth 67 = .ok (.ireturn, 1) := by decide +kernel
set_option maxRecDepth 20000 in
theorem ggX7_longest_X7_units : GoodIn wsX7_longest wsX7_units := goodIn_r _ [6, 7, 8, 9, 5, 10, 1, 11, 12, 13, 14, 15, 16, 17, 18, 19, 20, 21, 22, 23, 24, 25, 26, 27, 28, 29, 30, 31, 32, 33, 34, 35, 36, 37, 38, 39, 40, 41, 42, 43, 44, 45, 46, 47, 48, 49] (by decide +kernel) (by decide +kernel)
set_option maxRecDepth 20000 in
theorem gX7_longest_X7_units : GoodIn wsX7_longest (wsV RX7 68 RX7 yX7_units wsX7_units) := goodIn_app (goodIn_of _ (by decide +kernel)) ggX7_longest_X7_units
theorem dX7_longest_0 : decode cX7_longest 0 = .ok (.sipush (-1005), 3) := by decide +kernel
theorem dX7_longest_3 : decode cX7_longest 3 = .ok (.istore_n 1, 1) := by decide +kernel
theorem dX7_longest_4 : decode cX7_longest 4 = .ok (.iconst 0, 1) := by decide +kernel
theorem dX7_longest_5 : decode cX7_longest 5 = .ok (.istore_n 2, 1) := by decide +kernel
theorem dX7_longest_6 : decode cX7_longest 6 = .ok (.iload_n 2, 1) := by decide +kernel
theorem dX7_longest_7 : decode cX7_longest 7 = .ok (.aload_n 0, 1) := by decide +kernel
theorem dX7_longest_8 : decode cX7_longest 8 = .ok (.getfield 7, 3) := by decide +kernel
theorem dX7_longest_11 : decode cX7_longest 11 = .ok (.iconst 4, 1) := by decide +kernel
theorem dX7_longest_12 : decode cX7_longest 12 = .ok (.iaload, 1) := by decide +kernel
theorem dX7_longest_13 : decode cX7_longest 13 = .ok (.if_icmp .ge 35, 3) := by decide +kernel
theorem dX7_longest_16 : decode cX7_longest 16 = .ok (.iload_n 1, 1) := by decide +kernel
theorem dX7_longest_17 : decode cX7_longest 17 = .ok (.sipush (-1005), 3) := by decide +kernel
theorem dX7_longest_20 : decode cX7_longest 20 = .ok (.if_icmp .eq 16, 3) := by decide +kernel
theorem dX7_longest_23 : decode cX7_longest 23 = .ok (.aload_n 0, 1) := by decide +kernel
theorem dX7_longest_24 : decode cX7_longest 24 = .ok (.iload_n 2, 1) := by decide +kernel
theorem dX7_longest_25 : decode cX7_longest 25 = .ok (.invokevirtual 68, 3) := by decide +kernel
theorem dX7_longest_28 : decode cX7_longest 28 = .ok (.aload_n 0, 1) := by decide +kernel
theorem dX7_longest_29 : decode cX7_longest 29 = .ok (.iload_n 1, 1) := by decide +kernel
theorem dX7_longest_30 : decode cX7_longest 30 = .ok (.invokevirtual 68, 3) := by decide +kernel
theorem dX7_longest_33 : decode cX7_longest 33 = .ok (.if_icmp .le 7, 3) := by decide +kernel
theorem dX7_longest_36 : decode cX7_longest 36 = .ok (.iload_n 2, 1) := by decide +kernel
theorem dX7_longest_37 : decode cX7_longest 37 = .ok (.goto 4, 3) := by decide +kernel
theorem dX7_longest_40 : decode cX7_longest 40 = .ok (.iload_n 1, 1) := by decide +kernel
theorem dX7_longest_41 : decode cX7_longest 41 = .ok (.istore_n 1, 1) := by decide +kernel
theorem dX7_longest_42 : decode cX7_longest 42 = .ok (.iinc 2 1, 3) := by decide +kernel
theorem dX7_longest_45 : decode cX7_longest 45 = .ok (.goto (-39), 3) := by decide +kernel
theorem dX7_longest_48 : decode cX7_longest 48 = .ok (.iload_n 1, 1) := by decide +kernel
theorem dX7_longest_49 : decode cX7_longest 49 = .ok (.ireturn, 1) := by decide +kernel
set_option maxRecDepth 20000 in
theorem ggX7_adjustment_X7_areSigns : GoodIn wsX7_adjustment wsX7_areSigns := goodIn_r _ [4, 5, 6, 3, 7, 8, 9, 10, 11, 12, 13] (by decide +kernel) (by decide +kernel)
set_option maxRecDepth 20000 in
theorem gX7_adjustment_X7_areSigns : GoodIn wsX7_adjustment (va_wsS RX7 115 yX7_areSigns wsX7_areSigns) := goodIn_app (goodIn_of _ (by decide +kernel)) ggX7_adjustment_X7_areSigns
set_option maxRecDepth 20000 in
theorem ggX7_adjustment_X7_adjusted : GoodIn wsX7_adjustment wsX7_adjusted := goodIn_r _ [17, 18, 19, 20, 21, 3, 22, 23, 24, 25, 26, 27, 28, 29] (by decide +kernel) (by decide +kernel)
set_option maxRecDepth 20000 in
theorem gX7_adjustment_X7_adjusted : GoodIn wsX7_adjustment (wsV RX7 43 RX7 yX7_adjusted wsX7_adjusted) := goodIn_app (goodIn_of _ (by decide +kernel)) ggX7_adjustment_X7_adjusted
theorem dX7_adjustment_0 : decode cX7_adjustment 0 = .ok (.iload_n 1, 1) := by decide +kernel
theorem dX7_adjustment_1 : decode cX7_adjustment 1 = .ok (.iload_n 2, 1) := by decide +kernel
theorem dX7_adjustment_2 : decode cX7_adjustment 2 = .ok (.invokestatic 115, 3) := by decide +kernel
theorem dX7_adjustment_5 : decode cX7_adjustment 5 = .ok (.ifCond .eq 12, 3) := by decide +kernel
theorem dX7_adjustment_8 : decode cX7_adjustment 8 = .ok (.aload_n 0, 1) := by decide +kernel
theorem dX7_adjustment_9 : decode cX7_adjustment 9 = .ok (.iload_n 1, 1) := by decide +kernel
theorem dX7_adjustment_10 : decode cX7_adjustment 10 = .ok (.iload_n 2, 1) := by decide +kernel
theorem dX7_adjustment_11 : decode cX7_adjustment 11 = .ok (.invokevirtual 43, 3) := by decide +kernel
theorem dX7_adjustment_14 : decode cX7_adjustment 14 = .ok (.goto 6, 3) := by decide +kernel
theorem dX7_adjustment_17 : decode cX7_adjustment 17 = .ok (.sipush (-1001), 3) := by decide +kernel
theorem dX7_adjustment_20 : decode cX7_adjustment 20 = .ok (.ireturn, 1) := by decide +kernel
set_option maxRecDepth 20000 in
theorem ggX7_pair_X7_in : GoodIn wsX7_pair wsX7_in := goodIn_r _ [5] (by decide +kernel) (by decide +kernel)
set_option maxRecDepth 20000 in
theorem gX7_pair_X7_in : GoodIn wsX7_pair (va_wsS RX7 27 yX7_in wsX7_in) := goodIn_app (goodIn_of _ (by decide +kernel)) ggX7_pair_X7_in
theorem dX7_pair_0 : decode cX7_pair 0 = .ok (.iload_n 1, 1) := by decide +kernel
theorem dX7_pair_1 : decode cX7_pair 1 = .ok (.ifCond .lt 12, 3) := by decide +kernel
theorem dX7_pair_4 : decode cX7_pair 4 = .ok (.iload_n 2, 1) := by decide +kernel
theorem dX7_pair_5 : decode cX7_pair 5 = .ok (.iconst 0, 1) := by decide +kernel
theorem dX7_pair_6 : decode cX7_pair 6 = .ok (.iconst 2, 1) := by decide +kernel
theorem dX7_pair_7 : decode cX7_pair 7 = .ok (.invokestatic 27, 3) := by decide +kernel
theorem dX7_pair_10 : decode cX7_pair 10 = .ok (.ifCond .ne 7, 3) := by decide +kernel
theorem dX7_pair_13 : decode cX7_pair 13 = .ok (.sipush (-1002), 3) := by decide +kernel
theorem dX7_pair_16 : decode cX7_pair 16 = .ok (.ireturn, 1) := by decide +kernel
theorem dX7_pair_17 : decode cX7_pair 17 = .ok (.iload_n 1, 1) := by decide +kernel
theorem dX7_pair_18 : decode cX7_pair 18 = .ok (.aload_n 0, 1) := by decide +kernel
theorem dX7_pair_19 : decode cX7_pair 19 = .ok (.getfield 7, 3) := by decide +kernel
theorem dX7_pair_22 : decode cX7_pair 22 = .ok (.bipush 8, 2) := by decide +kernel
theorem dX7_pair_24 : decode cX7_pair 24 = .ok (.iaload, 1) := by decide +kernel
theorem dX7_pair_25 : decode cX7_pair 25 = .ok (.if_icmp .ge 19, 3) := by decide +kernel
theorem dX7_pair_28 : decode cX7_pair 28 = .ok (.aload_n 0, 1) := by decide +kernel
theorem dX7_pair_29 : decode cX7_pair 29 = .ok (.getfield 7, 3) := by decide +kernel
theorem dX7_pair_32 : decode cX7_pair 32 = .ok (.bipush 9, 2) := by decide +kernel
theorem dX7_pair_34 : decode cX7_pair 34 = .ok (.iconst 3, 1) := by decide +kernel
theorem dX7_pair_35 : decode cX7_pair 35 = .ok (.iload_n 1, 1) := by decide +kernel
theorem dX7_pair_36 : decode cX7_pair 36 = .ok (.imul, 1) := by decide +kernel
theorem dX7_pair_37 : decode cX7_pair 37 = .ok (.iadd, 1) := by decide +kernel
theorem dX7_pair_38 : decode cX7_pair 38 = .ok (.iload_n 2, 1) := by decide +kernel
theorem dX7_pair_39 : decode cX7_pair 39 = .ok (.iadd, 1) := by decide +kernel
theorem dX7_pair_40 : decode cX7_pair 40 = .ok (.iaload, 1) := by decide +kernel
theorem dX7_pair_41 : decode cX7_pair 41 = .ok (.goto 6, 3) := by decide +kernel
theorem dX7_pair_44 : decode cX7_pair 44 = .ok (.sipush (-1005), 3) := by decide +kernel
theorem dX7_pair_47 : decode cX7_pair 47 = .ok (.ireturn, 1) := by decide +kernel
set_option maxRecDepth 20000 in
theorem ggX7_count_X7_engraved : GoodIn wsX7_count wsX7_engraved := goodIn_r _ [8, 1, 9, 10, 11, 7, 12, 17, 18, 19, 20, 21, 22, 23] (by decide +kernel) (by decide +kernel)
set_option maxRecDepth 20000 in
theorem gX7_count_X7_engraved : GoodIn wsX7_count (wsV RX7 81 RX7 yX7_engraved wsX7_engraved) := goodIn_app (goodIn_of _ (by decide +kernel)) ggX7_count_X7_engraved
set_option maxRecDepth 20000 in
theorem ggX7_count_X7_rowsOf : GoodIn wsX7_count wsX7_rowsOf := goodIn_r _ [16, 1, 17, 18, 19, 20, 21, 22, 23] (by decide +kernel) (by decide +kernel)
set_option maxRecDepth 20000 in
theorem gX7_count_X7_rowsOf : GoodIn wsX7_count (wsV RX7 74 RX7 yX7_rowsOf wsX7_rowsOf) := goodIn_app (goodIn_of _ (by decide +kernel)) ggX7_count_X7_rowsOf
theorem dX7_count_0 : decode cX7_count 0 = .ok (.iload_n 1, 1) := by decide +kernel
theorem dX7_count_1 : decode cX7_count 1 = .ok (.tableswitch 120 0 11 #[63, 63, 63, 63, 63, 70, 75, 86, 94, 102, 110, 115], 63) := by decide +kernel
theorem dX7_count_64 : decode cX7_count 64 = .ok (.aload_n 0, 1) := by decide +kernel
theorem dX7_count_65 : decode cX7_count 65 = .ok (.getfield 7, 3) := by decide +kernel
theorem dX7_count_68 : decode cX7_count 68 = .ok (.iload_n 1, 1) := by decide +kernel
theorem dX7_count_69 : decode cX7_count 69 = .ok (.iaload, 1) := by decide +kernel
theorem dX7_count_70 : decode cX7_count 70 = .ok (.ireturn, 1) := by decide +kernel
theorem dX7_count_71 : decode cX7_count 71 = .ok (.aload_n 0, 1) := by decide +kernel
theorem dX7_count_72 : decode cX7_count 72 = .ok (.invokevirtual 81, 3) := by decide +kernel
theorem dX7_count_75 : decode cX7_count 75 = .ok (.ireturn, 1) := by decide +kernel
theorem dX7_count_76 : decode cX7_count 76 = .ok (.aload_n 0, 1) := by decide +kernel
theorem dX7_count_77 : decode cX7_count 77 = .ok (.aload_n 0, 1) := by decide +kernel
theorem dX7_count_78 : decode cX7_count 78 = .ok (.getfield 7, 3) := by decide +kernel
theorem dX7_count_81 : decode cX7_count 81 = .ok (.iconst 4, 1) := by decide +kernel
theorem dX7_count_82 : decode cX7_count 82 = .ok (.iaload, 1) := by decide +kernel
theorem dX7_count_83 : decode cX7_count 83 = .ok (.invokevirtual 74, 3) := by decide +kernel
theorem dX7_count_86 : decode cX7_count 86 = .ok (.ireturn, 1) := by decide +kernel
theorem dX7_count_87 : decode cX7_count 87 = .ok (.aload_n 0, 1) := by decide +kernel
theorem dX7_count_88 : decode cX7_count 88 = .ok (.getfield 7, 3) := by decide +kernel
theorem dX7_count_91 : decode cX7_count 91 = .ok (.bipush 6, 2) := by decide +kernel
theorem dX7_count_93 : decode cX7_count 93 = .ok (.iaload, 1) := by decide +kernel
theorem dX7_count_94 : decode cX7_count 94 = .ok (.ireturn, 1) := by decide +kernel
theorem dX7_count_95 : decode cX7_count 95 = .ok (.aload_n 0, 1) := by decide +kernel
theorem dX7_count_96 : decode cX7_count 96 = .ok (.getfield 7, 3) := by decide +kernel
theorem dX7_count_99 : decode cX7_count 99 = .ok (.bipush 7, 2) := by decide +kernel
theorem dX7_count_101 : decode cX7_count 101 = .ok (.iaload, 1) := by decide +kernel
theorem dX7_count_102 : decode cX7_count 102 = .ok (.ireturn, 1) := by decide +kernel
theorem dX7_count_103 : decode cX7_count 103 = .ok (.aload_n 0, 1) := by decide +kernel
theorem dX7_count_104 : decode cX7_count 104 = .ok (.getfield 7, 3) := by decide +kernel
theorem dX7_count_107 : decode cX7_count 107 = .ok (.bipush 8, 2) := by decide +kernel
theorem dX7_count_109 : decode cX7_count 109 = .ok (.iaload, 1) := by decide +kernel
theorem dX7_count_110 : decode cX7_count 110 = .ok (.ireturn, 1) := by decide +kernel
theorem dX7_count_111 : decode cX7_count 111 = .ok (.aload_n 0, 1) := by decide +kernel
theorem dX7_count_112 : decode cX7_count 112 = .ok (.getfield 23, 3) := by decide +kernel
theorem dX7_count_115 : decode cX7_count 115 = .ok (.ireturn, 1) := by decide +kernel
theorem dX7_count_116 : decode cX7_count 116 = .ok (.aload_n 0, 1) := by decide +kernel
theorem dX7_count_117 : decode cX7_count 117 = .ok (.getfield 122, 3) := by decide +kernel
theorem dX7_count_120 : decode cX7_count 120 = .ok (.ireturn, 1) := by decide +kernel
theorem dX7_count_121 : decode cX7_count 121 = .ok (.sipush (-1002), 3) := by decide +kernel
end
section
theorem dX7_count_124 : decode cX7_count 124 = .ok (.ireturn, 1) := by decide +kernel
theorem dJ6_bitCount_0f7a4_0 : decode cJ6_bitCount_0f7a4 0 = .ok (.iload_n 0, 1) := by decide +kernel
theorem dJ6_bitCount_0f7a4_1 : decode cJ6_bitCount_0f7a4 1 = .ok (.iload_n 0, 1) := by decide +kernel
theorem dJ6_bitCount_0f7a4_2 : decode cJ6_bitCount_0f7a4 2 = .ok (.iconst 1, 1) := by decide +kernel
theorem dJ6_bitCount_0f7a4_3 : decode cJ6_bitCount_0f7a4 3 = .ok (.iushr, 1) := by decide +kernel
theorem dJ6_bitCount_0f7a4_4 : decode cJ6_bitCount_0f7a4 4 = .ok (.ldc_w 265, 3) := by decide +kernel
theorem dJ6_bitCount_0f7a4_7 : decode cJ6_bitCount_0f7a4 7 = .ok (.iand, 1) := by decide +kernel
theorem dJ6_bitCount_0f7a4_8 : decode cJ6_bitCount_0f7a4 8 = .ok (.isub, 1) := by decide +kernel
theorem dJ6_bitCount_0f7a4_9 : decode cJ6_bitCount_0f7a4 9 = .ok (.istore_n 0, 1) := by decide +kernel
theorem dJ6_bitCount_0f7a4_10 : decode cJ6_bitCount_0f7a4 10 = .ok (.iload_n 0, 1) := by decide +kernel
theorem dJ6_bitCount_0f7a4_11 : decode cJ6_bitCount_0f7a4 11 = .ok (.ldc_w 266, 3) := by decide +kernel
theorem dJ6_bitCount_0f7a4_14 : decode cJ6_bitCount_0f7a4 14 = .ok (.iand, 1) := by decide +kernel
theorem dJ6_bitCount_0f7a4_15 : decode cJ6_bitCount_0f7a4 15 = .ok (.iload_n 0, 1) := by decide +kernel
theorem dJ6_bitCount_0f7a4_16 : decode cJ6_bitCount_0f7a4 16 = .ok (.iconst 2, 1) := by decide +kernel
theorem dJ6_bitCount_0f7a4_17 : decode cJ6_bitCount_0f7a4 17 = .ok (.iushr, 1) := by decide +kernel
theorem dJ6_bitCount_0f7a4_18 : decode cJ6_bitCount_0f7a4 18 = .ok (.ldc_w 266, 3) := by decide +kernel
theorem dJ6_bitCount_0f7a4_21 : decode cJ6_bitCount_0f7a4 21 = .ok (.iand, 1) := by decide +kernel
theorem dJ6_bitCount_0f7a4_22 : decode cJ6_bitCount_0f7a4 22 = .ok (.iadd, 1) := by decide +kernel
theorem dJ6_bitCount_0f7a4_23 : decode cJ6_bitCount_0f7a4 23 = .ok (.istore_n 0, 1) := by decide +kernel
theorem dJ6_bitCount_0f7a4_24 : decode cJ6_bitCount_0f7a4 24 = .ok (.iload_n 0, 1) := by decide +kernel
theorem dJ6_bitCount_0f7a4_25 : decode cJ6_bitCount_0f7a4 25 = .ok (.iload_n 0, 1) := by decide +kernel
theorem dJ6_bitCount_0f7a4_26 : decode cJ6_bitCount_0f7a4 26 = .ok (.iconst 4, 1) := by decide +kernel
theorem dJ6_bitCount_0f7a4_27 : decode cJ6_bitCount_0f7a4 27 = .ok (.iushr, 1) := by decide +kernel
theorem dJ6_bitCount_0f7a4_28 : decode cJ6_bitCount_0f7a4 28 = .ok (.iadd, 1) := by decide +kernel
theorem dJ6_bitCount_0f7a4_29 : decode cJ6_bitCount_0f7a4 29 = .ok (.ldc_w 267, 3) := by decide +kernel
theorem dJ6_bitCount_0f7a4_32 : decode cJ6_bitCount_0f7a4 32 = .ok (.iand, 1) := by decide +kernel
theorem dJ6_bitCount_0f7a4_33 : decode cJ6_bitCount_0f7a4 33 = .ok (.istore_n 0, 1) := by decide +kernel
theorem dJ6_bitCount_0f7a4_34 : decode cJ6_bitCount_0f7a4 34 = .ok (.iload_n 0, 1) := by decide +kernel
theorem dJ6_bitCount_0f7a4_35 : decode cJ6_bitCount_0f7a4 35 = .ok (.iload_n 0, 1) := by decide +kernel
theorem dJ6_bitCount_0f7a4_36 : decode cJ6_bitCount_0f7a4 36 = .ok (.bipush 8, 2) := by decide +kernel
theorem dJ6_bitCount_0f7a4_38 : decode cJ6_bitCount_0f7a4 38 = .ok (.iushr, 1) := by decide +kernel
theorem dJ6_bitCount_0f7a4_39 : decode cJ6_bitCount_0f7a4 39 = .ok (.iadd, 1) := by decide +kernel
theorem dJ6_bitCount_0f7a4_40 : decode cJ6_bitCount_0f7a4 40 = .ok (.istore_n 0, 1) := by decide +kernel
theorem dJ6_bitCount_0f7a4_41 : decode cJ6_bitCount_0f7a4 41 = .ok (.iload_n 0, 1) := by decide +kernel
theorem dJ6_bitCount_0f7a4_42 : decode cJ6_bitCount_0f7a4 42 = .ok (.iload_n 0, 1) := by decide +kernel
theorem dJ6_bitCount_0f7a4_43 : decode cJ6_bitCount_0f7a4 43 = .ok (.bipush 16, 2) := by decide +kernel
theorem dJ6_bitCount_0f7a4_45 : decode cJ6_bitCount_0f7a4 45 = .ok (.iushr, 1) := by decide +kernel
theorem dJ6_bitCount_0f7a4_46 : decode cJ6_bitCount_0f7a4 46 = .ok (.iadd, 1) := by decide +kernel
theorem dJ6_bitCount_0f7a4_47 : decode cJ6_bitCount_0f7a4 47 = .ok (.istore_n 0, 1) := by decide +kernel
theorem dJ6_bitCount_0f7a4_48 : decode cJ6_bitCount_0f7a4 48 = .ok (.iload_n 0, 1) := by decide +kernel
theorem dJ6_bitCount_0f7a4_49 : decode cJ6_bitCount_0f7a4 49 = .ok (.bipush 63, 2) := by decide +kernel
theorem dJ6_bitCount_0f7a4_51 : decode cJ6_bitCount_0f7a4 51 = .ok (.iand, 1) := by decide +kernel
theorem dJ6_bitCount_0f7a4_52 : decode cJ6_bitCount_0f7a4 52 = .ok (.ireturn, 1) := by decide +kernel
theorem dJ9_floorDiv_7cf53_0 : decode cJ9_floorDiv_7cf53 0 = .ok (.iload_n 0, 1) := by decide +kernel
theorem dJ9_floorDiv_7cf53_1 : decode cJ9_floorDiv_7cf53 1 = .ok (.iload_n 1, 1) := by decide +kernel
theorem dJ9_floorDiv_7cf53_2 : decode cJ9_floorDiv_7cf53 2 = .ok (.idiv, 1) := by decide +kernel
theorem dJ9_floorDiv_7cf53_3 : decode cJ9_floorDiv_7cf53 3 = .ok (.istore_n 2, 1) := by decide +kernel
theorem dJ9_floorDiv_7cf53_4 : decode cJ9_floorDiv_7cf53 4 = .ok (.iload_n 0, 1) := by decide +kernel
theorem dJ9_floorDiv_7cf53_5 : decode cJ9_floorDiv_7cf53 5 = .ok (.iload_n 1, 1) := by decide +kernel
theorem dJ9_floorDiv_7cf53_6 : decode cJ9_floorDiv_7cf53 6 = .ok (.ixor, 1) := by decide +kernel
theorem dJ9_floorDiv_7cf53_7 : decode cJ9_floorDiv_7cf53 7 = .ok (.ifCond .ge 14, 3) := by decide +kernel
theorem dJ9_floorDiv_7cf53_10 : decode cJ9_floorDiv_7cf53 10 = .ok (.iload_n 2, 1) := by decide +kernel
theorem dJ9_floorDiv_7cf53_11 : decode cJ9_floorDiv_7cf53 11 = .ok (.iload_n 1, 1) := by decide +kernel
theorem dJ9_floorDiv_7cf53_12 : decode cJ9_floorDiv_7cf53 12 = .ok (.imul, 1) := by decide +kernel
theorem dJ9_floorDiv_7cf53_13 : decode cJ9_floorDiv_7cf53 13 = .ok (.iload_n 0, 1) := by decide +kernel
theorem dJ9_floorDiv_7cf53_14 : decode cJ9_floorDiv_7cf53 14 = .ok (.if_icmp .eq 7, 3) := by decide +kernel
theorem dJ9_floorDiv_7cf53_17 : decode cJ9_floorDiv_7cf53 17 = .ok (.iload_n 2, 1) := by decide +kernel
theorem dJ9_floorDiv_7cf53_18 : decode cJ9_floorDiv_7cf53 18 = .ok (.iconst 1, 1) := by decide +kernel
theorem dJ9_floorDiv_7cf53_19 : decode cJ9_floorDiv_7cf53 19 = .ok (.isub, 1) := by decide +kernel
theorem dJ9_floorDiv_7cf53_20 : decode cJ9_floorDiv_7cf53 20 = .ok (.ireturn, 1) := by decide +kernel
theorem dJ9_floorDiv_7cf53_21 : decode cJ9_floorDiv_7cf53 21 = .ok (.iload_n 2, 1) := by decide +kernel
theorem dJ9_floorDiv_7cf53_22 : decode cJ9_floorDiv_7cf53 22 = .ok (.ireturn, 1) := by decide +kernel
theorem dJ9_max_7cf53_0 : decode cJ9_max_7cf53 0 = .ok (.iload_n 0, 1) := by decide +kernel
theorem dJ9_max_7cf53_1 : decode cJ9_max_7cf53 1 = .ok (.iload_n 1, 1) := by decide +kernel
theorem dJ9_max_7cf53_2 : decode cJ9_max_7cf53 2 = .ok (.if_icmp .lt 7, 3) := by decide +kernel
theorem dJ9_max_7cf53_5 : decode cJ9_max_7cf53 5 = .ok (.iload_n 0, 1) := by decide +kernel
theorem dJ9_max_7cf53_6 : decode cJ9_max_7cf53 6 = .ok (.goto 4, 3) := by decide +kernel
theorem dJ9_max_7cf53_9 : decode cJ9_max_7cf53 9 = .ok (.iload_n 1, 1) := by decide +kernel
theorem dJ9_max_7cf53_10 : decode cJ9_max_7cf53 10 = .ok (.ireturn, 1) := by decide +kernel
theorem dJ9_min_7cf53_0 : decode cJ9_min_7cf53 0 = .ok (.iload_n 0, 1) := by decide +kernel
theorem dJ9_min_7cf53_1 : decode cJ9_min_7cf53 1 = .ok (.iload_n 1, 1) := by decide +kernel
theorem dJ9_min_7cf53_2 : decode cJ9_min_7cf53 2 = .ok (.if_icmp .gt 7, 3) := by decide +kernel
theorem dJ9_min_7cf53_5 : decode cJ9_min_7cf53 5 = .ok (.iload_n 0, 1) := by decide +kernel
theorem dJ9_min_7cf53_6 : decode cJ9_min_7cf53 6 = .ok (.goto 4, 3) := by decide +kernel
theorem dJ9_min_7cf53_9 : decode cJ9_min_7cf53 9 = .ok (.iload_n 1, 1) := by decide +kernel
theorem dJ9_min_7cf53_10 : decode cJ9_min_7cf53 10 = .ok (.ireturn, 1) := by decide +kernel
theorem dL_law_0 : decode cL_law 0 = .ok (.new 7, 3) := by decide +kernel
theorem dL_law_3 : decode cL_law 3 = .ok (.dup, 1) := by decide +kernel
theorem dL_law_4 : decode cL_law 4 = .ok (.invokespecial 9, 3) := by decide +kernel
theorem dL_law_7 : decode cL_law 7 = .ok (.astore_n 1, 1) := by decide +kernel
theorem dL_law_8 : decode cL_law 8 = .ok (.new 10, 3) := by decide +kernel
theorem dL_law_11 : decode cL_law 11 = .ok (.dup, 1) := by decide +kernel
theorem dL_law_12 : decode cL_law 12 = .ok (.invokespecial 12, 3) := by decide +kernel
theorem dL_law_15 : decode cL_law 15 = .ok (.astore_n 2, 1) := by decide +kernel
theorem dL_law_16 : decode cL_law 16 = .ok (.iconst 0, 1) := by decide +kernel
theorem dL_law_17 : decode cL_law 17 = .ok (.istore_n 3, 1) := by decide +kernel
theorem dL_law_18 : decode cL_law 18 = .ok (.iload_n 3, 1) := by decide +kernel
theorem dL_law_19 : decode cL_law 19 = .ok (.aload_n 0, 1) := by decide +kernel
theorem dL_law_20 : decode cL_law 20 = .ok (.arraylength, 1) := by decide +kernel
theorem dL_law_21 : decode cL_law 21 = .ok (.iconst 4, 1) := by decide +kernel
theorem dL_law_22 : decode cL_law 22 = .ok (.isub, 1) := by decide +kernel
theorem dL_law_23 : decode cL_law 23 = .ok (.if_icmp .gt 746, 3) := by decide +kernel
theorem dL_law_26 : decode cL_law 26 = .ok (.aload_n 0, 1) := by decide +kernel
theorem dL_law_27 : decode cL_law 27 = .ok (.iload_n 3, 1) := by decide +kernel
theorem dL_law_28 : decode cL_law 28 = .ok (.iaload, 1) := by decide +kernel
theorem dL_law_29 : decode cL_law 29 = .ok (.bipush 31, 2) := by decide +kernel
theorem dL_law_31 : decode cL_law 31 = .ok (.iand, 1) := by decide +kernel
theorem dL_law_32 : decode cL_law 32 = .ok (.tableswitch 731 0 24 #[116, 149, 172, 195, 242, 267, 280, 293, 316, 349, 372, 385, 398, 411, 424, 457, 500, 533, 546, 579, 602, 625, 638, 675, 708], 116) := by decide +kernel
theorem dL_law_148 : decode cL_law 148 = .ok (.aload_n 1, 1) := by decide +kernel
theorem dL_law_149 : decode cL_law 149 = .ok (.aload_n 0, 1) := by decide +kernel
theorem dL_law_150 : decode cL_law 150 = .ok (.iload_n 3, 1) := by decide +kernel
theorem dL_law_151 : decode cL_law 151 = .ok (.iconst 1, 1) := by decide +kernel
theorem dL_law_152 : decode cL_law 152 = .ok (.iadd, 1) := by decide +kernel
theorem dL_law_153 : decode cL_law 153 = .ok (.iaload, 1) := by decide +kernel
theorem dL_law_154 : decode cL_law 154 = .ok (.aload_n 0, 1) := by decide +kernel
theorem dL_law_155 : decode cL_law 155 = .ok (.iload_n 3, 1) := by decide +kernel
theorem dL_law_156 : decode cL_law 156 = .ok (.iconst 2, 1) := by decide +kernel
theorem dL_law_157 : decode cL_law 157 = .ok (.iadd, 1) := by decide +kernel
theorem dL_law_158 : decode cL_law 158 = .ok (.iaload, 1) := by decide +kernel
theorem dL_law_159 : decode cL_law 159 = .ok (.invokevirtual 13, 3) := by decide +kernel
theorem dL_law_162 : decode cL_law 162 = .ok (.aload_n 2, 1) := by decide +kernel
theorem dL_law_163 : decode cL_law 163 = .ok (.aload_n 0, 1) := by decide +kernel
theorem dL_law_164 : decode cL_law 164 = .ok (.iload_n 3, 1) := by decide +kernel
theorem dL_law_165 : decode cL_law 165 = .ok (.iconst 1, 1) := by decide +kernel
theorem dL_law_166 : decode cL_law 166 = .ok (.iadd, 1) := by decide +kernel
theorem dL_law_167 : decode cL_law 167 = .ok (.iaload, 1) := by decide +kernel
theorem dL_law_168 : decode cL_law 168 = .ok (.aload_n 0, 1) := by decide +kernel
theorem dL_law_169 : decode cL_law 169 = .ok (.iload_n 3, 1) := by decide +kernel
theorem dL_law_170 : decode cL_law 170 = .ok (.iconst 2, 1) := by decide +kernel
theorem dL_law_171 : decode cL_law 171 = .ok (.iadd, 1) := by decide +kernel
theorem dL_law_172 : decode cL_law 172 = .ok (.iaload, 1) := by decide +kernel
theorem dL_law_173 : decode cL_law 173 = .ok (.invokevirtual 17, 3) := by decide +kernel
theorem dL_law_176 : decode cL_law 176 = .ok (.if_icmp .eq 587, 3) := by decide +kernel
theorem dL_law_179 : decode cL_law 179 = .ok (.iconst 0, 1) := by decide +kernel
theorem dL_law_180 : decode cL_law 180 = .ok (.ireturn, 1) := by decide +kernel
theorem dL_law_181 : decode cL_law 181 = .ok (.aload_n 1, 1) := by decide +kernel
theorem dL_law_182 : decode cL_law 182 = .ok (.aload_n 0, 1) := by decide +kernel
theorem dL_law_183 : decode cL_law 183 = .ok (.iload_n 3, 1) := by decide +kernel
theorem dL_law_184 : decode cL_law 184 = .ok (.iconst 1, 1) := by decide +kernel
theorem dL_law_185 : decode cL_law 185 = .ok (.iadd, 1) := by decide +kernel
theorem dL_law_186 : decode cL_law 186 = .ok (.iaload, 1) := by decide +kernel
theorem dL_law_187 : decode cL_law 187 = .ok (.invokevirtual 18, 3) := by decide +kernel
theorem dL_law_190 : decode cL_law 190 = .ok (.aload_n 2, 1) := by decide +kernel
theorem dL_law_191 : decode cL_law 191 = .ok (.aload_n 0, 1) := by decide +kernel
theorem dL_law_192 : decode cL_law 192 = .ok (.iload_n 3, 1) := by decide +kernel
theorem dL_law_193 : decode cL_law 193 = .ok (.iconst 1, 1) := by decide +kernel
theorem dL_law_194 : decode cL_law 194 = .ok (.iadd, 1) := by decide +kernel
theorem dL_law_195 : decode cL_law 195 = .ok (.iaload, 1) := by decide +kernel
theorem dL_law_196 : decode cL_law 196 = .ok (.invokevirtual 22, 3) := by decide +kernel
theorem dL_law_199 : decode cL_law 199 = .ok (.if_icmp .eq 564, 3) := by decide +kernel
theorem dL_law_202 : decode cL_law 202 = .ok (.iconst 0, 1) := by decide +kernel
theorem dL_law_203 : decode cL_law 203 = .ok (.ireturn, 1) := by decide +kernel
theorem dL_law_204 : decode cL_law 204 = .ok (.aload_n 1, 1) := by decide +kernel
theorem dL_law_205 : decode cL_law 205 = .ok (.aload_n 0, 1) := by decide +kernel
theorem dL_law_206 : decode cL_law 206 = .ok (.iload_n 3, 1) := by decide +kernel
theorem dL_law_207 : decode cL_law 207 = .ok (.iconst 1, 1) := by decide +kernel
theorem dL_law_208 : decode cL_law 208 = .ok (.iadd, 1) := by decide +kernel
theorem dL_law_209 : decode cL_law 209 = .ok (.iaload, 1) := by decide +kernel
theorem dL_law_210 : decode cL_law 210 = .ok (.invokevirtual 23, 3) := by decide +kernel
theorem dL_law_213 : decode cL_law 213 = .ok (.aload_n 2, 1) := by decide +kernel
theorem dL_law_214 : decode cL_law 214 = .ok (.aload_n 0, 1) := by decide +kernel
theorem dL_law_215 : decode cL_law 215 = .ok (.iload_n 3, 1) := by decide +kernel
theorem dL_law_216 : decode cL_law 216 = .ok (.iconst 1, 1) := by decide +kernel
theorem dL_law_217 : decode cL_law 217 = .ok (.iadd, 1) := by decide +kernel
theorem dL_law_218 : decode cL_law 218 = .ok (.iaload, 1) := by decide +kernel
theorem dL_law_219 : decode cL_law 219 = .ok (.invokevirtual 26, 3) := by decide +kernel
theorem dL_law_222 : decode cL_law 222 = .ok (.if_icmp .eq 541, 3) := by decide +kernel
theorem dL_law_225 : decode cL_law 225 = .ok (.iconst 0, 1) := by decide +kernel
theorem dL_law_226 : decode cL_law 226 = .ok (.ireturn, 1) := by decide +kernel
theorem dL_law_227 : decode cL_law 227 = .ok (.aload_n 1, 1) := by decide +kernel
theorem dL_law_228 : decode cL_law 228 = .ok (.aload_n 0, 1) := by decide +kernel
theorem dL_law_229 : decode cL_law 229 = .ok (.iload_n 3, 1) := by decide +kernel
theorem dL_law_230 : decode cL_law 230 = .ok (.iconst 1, 1) := by decide +kernel
theorem dL_law_231 : decode cL_law 231 = .ok (.iadd, 1) := by decide +kernel
theorem dL_law_232 : decode cL_law 232 = .ok (.iaload, 1) := by decide +kernel
theorem dL_law_233 : decode cL_law 233 = .ok (.i2c, 1) := by decide +kernel
theorem dL_law_234 : decode cL_law 234 = .ok (.aload_n 0, 1) := by decide +kernel
theorem dL_law_235 : decode cL_law 235 = .ok (.iload_n 3, 1) := by decide +kernel
theorem dL_law_236 : decode cL_law 236 = .ok (.iconst 2, 1) := by decide +kernel
theorem dL_law_237 : decode cL_law 237 = .ok (.iadd, 1) := by decide +kernel
theorem dL_law_238 : decode cL_law 238 = .ok (.iaload, 1) := by decide +kernel
theorem dL_law_239 : decode cL_law 239 = .ok (.i2c, 1) := by decide +kernel
theorem dL_law_240 : decode cL_law 240 = .ok (.aload_n 0, 1) := by decide +kernel
theorem dL_law_241 : decode cL_law 241 = .ok (.iload_n 3, 1) := by decide +kernel
theorem dL_law_242 : decode cL_law 242 = .ok (.iconst 3, 1) := by decide +kernel
theorem dL_law_243 : decode cL_law 243 = .ok (.iadd, 1) := by decide +kernel
theorem dL_law_244 : decode cL_law 244 = .ok (.iaload, 1) := by decide +kernel
theorem dL_law_245 : decode cL_law 245 = .ok (.invokevirtual 27, 3) := by decide +kernel
theorem dL_law_248 : decode cL_law 248 = .ok (.aload_n 2, 1) := by decide +kernel
theorem dL_law_249 : decode cL_law 249 = .ok (.aload_n 0, 1) := by decide +kernel
theorem dL_law_250 : decode cL_law 250 = .ok (.iload_n 3, 1) := by decide +kernel
theorem dL_law_251 : decode cL_law 251 = .ok (.iconst 1, 1) := by decide +kernel
theorem dL_law_252 : decode cL_law 252 = .ok (.iadd, 1) := by decide +kernel
theorem dL_law_253 : decode cL_law 253 = .ok (.iaload, 1) := by decide +kernel
theorem dL_law_254 : decode cL_law 254 = .ok (.i2c, 1) := by decide +kernel
theorem dL_law_255 : decode cL_law 255 = .ok (.aload_n 0, 1) := by decide +kernel
theorem dL_law_256 : decode cL_law 256 = .ok (.iload_n 3, 1) := by decide +kernel
theorem dL_law_257 : decode cL_law 257 = .ok (.iconst 2, 1) := by decide +kernel
theorem dL_law_258 : decode cL_law 258 = .ok (.iadd, 1) := by decide +kernel
theorem dL_law_259 : decode cL_law 259 = .ok (.iaload, 1) := by decide +kernel
theorem dL_law_260 : decode cL_law 260 = .ok (.i2c, 1) := by decide +kernel
theorem dL_law_261 : decode cL_law 261 = .ok (.aload_n 0, 1) := by decide +kernel
theorem dL_law_262 : decode cL_law 262 = .ok (.iload_n 3, 1) := by decide +kernel
theorem dL_law_263 : decode cL_law 263 = .ok (.iconst 3, 1) := by decide +kernel
theorem dL_law_264 : decode cL_law 264 = .ok (.iadd, 1) := by decide +kernel
theorem dL_law_265 : decode cL_law 265 = .ok (.iaload, 1) := by decide +kernel
theorem dL_law_266 : decode cL_law 266 = .ok (.invokevirtual 31, 3) := by decide +kernel
theorem dL_law_269 : decode cL_law 269 = .ok (.if_icmp .eq 494, 3) := by decide +kernel
theorem dL_law_272 : decode cL_law 272 = .ok (.iconst 0, 1) := by decide +kernel
theorem dL_law_273 : decode cL_law 273 = .ok (.ireturn, 1) := by decide +kernel
theorem dL_law_274 : decode cL_law 274 = .ok (.aload_n 1, 1) := by decide +kernel
theorem dL_law_275 : decode cL_law 275 = .ok (.aload_n 0, 1) := by decide +kernel
theorem dL_law_276 : decode cL_law 276 = .ok (.iload_n 3, 1) := by decide +kernel
theorem dL_law_277 : decode cL_law 277 = .ok (.iconst 1, 1) := by decide +kernel
theorem dL_law_278 : decode cL_law 278 = .ok (.iadd, 1) := by decide +kernel
theorem dL_law_279 : decode cL_law 279 = .ok (.iaload, 1) := by decide +kernel
theorem dL_law_280 : decode cL_law 280 = .ok (.i2c, 1) := by decide +kernel
theorem dL_law_281 : decode cL_law 281 = .ok (.invokevirtual 32, 3) := by decide +kernel
theorem dL_law_284 : decode cL_law 284 = .ok (.aload_n 2, 1) := by decide +kernel
theorem dL_law_285 : decode cL_law 285 = .ok (.aload_n 0, 1) := by decide +kernel
theorem dL_law_286 : decode cL_law 286 = .ok (.iload_n 3, 1) := by decide +kernel
theorem dL_law_287 : decode cL_law 287 = .ok (.iconst 1, 1) := by decide +kernel
theorem dL_law_288 : decode cL_law 288 = .ok (.iadd, 1) := by decide +kernel
theorem dL_law_289 : decode cL_law 289 = .ok (.iaload, 1) := by decide +kernel
theorem dL_law_290 : decode cL_law 290 = .ok (.i2c, 1) := by decide +kernel
theorem dL_law_291 : decode cL_law 291 = .ok (.invokevirtual 36, 3) := by decide +kernel
theorem dL_law_294 : decode cL_law 294 = .ok (.if_icmp .eq 469, 3) := by decide +kernel
theorem dL_law_297 : decode cL_law 297 = .ok (.iconst 0, 1) := by decide +kernel
theorem dL_law_298 : decode cL_law 298 = .ok (.ireturn, 1) := by decide +kernel
theorem dL_law_299 : decode cL_law 299 = .ok (.aload_n 1, 1) := by decide +kernel
theorem dL_law_300 : decode cL_law 300 = .ok (.invokevirtual 37, 3) := by decide +kernel
theorem dL_law_303 : decode cL_law 303 = .ok (.aload_n 2, 1) := by decide +kernel
theorem dL_law_304 : decode cL_law 304 = .ok (.invokevirtual 41, 3) := by decide +kernel
theorem dL_law_307 : decode cL_law 307 = .ok (.if_icmp .eq 456, 3) := by decide +kernel
theorem dL_law_310 : decode cL_law 310 = .ok (.iconst 0, 1) := by decide +kernel
theorem dL_law_311 : decode cL_law 311 = .ok (.ireturn, 1) := by decide +kernel
theorem dL_law_312 : decode cL_law 312 = .ok (.aload_n 1, 1) := by decide +kernel
theorem dL_law_313 : decode cL_law 313 = .ok (.invokevirtual 42, 3) := by decide +kernel
theorem dL_law_316 : decode cL_law 316 = .ok (.aload_n 2, 1) := by decide +kernel
theorem dL_law_317 : decode cL_law 317 = .ok (.invokevirtual 45, 3) := by decide +kernel
theorem dL_law_320 : decode cL_law 320 = .ok (.if_icmp .eq 443, 3) := by decide +kernel
theorem dL_law_323 : decode cL_law 323 = .ok (.iconst 0, 1) := by decide +kernel
theorem dL_law_324 : decode cL_law 324 = .ok (.ireturn, 1) := by decide +kernel
theorem dL_law_325 : decode cL_law 325 = .ok (.aload_n 1, 1) := by decide +kernel
theorem dL_law_326 : decode cL_law 326 = .ok (.aload_n 0, 1) := by decide +kernel
theorem dL_law_327 : decode cL_law 327 = .ok (.iload_n 3, 1) := by decide +kernel
theorem dL_law_328 : decode cL_law 328 = .ok (.iconst 1, 1) := by decide +kernel
theorem dL_law_329 : decode cL_law 329 = .ok (.iadd, 1) := by decide +kernel
theorem dL_law_330 : decode cL_law 330 = .ok (.iaload, 1) := by decide +kernel
theorem dL_law_331 : decode cL_law 331 = .ok (.invokevirtual 46, 3) := by decide +kernel
theorem dL_law_334 : decode cL_law 334 = .ok (.aload_n 2, 1) := by decide +kernel
theorem dL_law_335 : decode cL_law 335 = .ok (.aload_n 0, 1) := by decide +kernel
theorem dL_law_336 : decode cL_law 336 = .ok (.iload_n 3, 1) := by decide +kernel
theorem dL_law_337 : decode cL_law 337 = .ok (.iconst 1, 1) := by decide +kernel
theorem dL_law_338 : decode cL_law 338 = .ok (.iadd, 1) := by decide +kernel
theorem dL_law_339 : decode cL_law 339 = .ok (.iaload, 1) := by decide +kernel
theorem dL_law_340 : decode cL_law 340 = .ok (.invokevirtual 49, 3) := by decide +kernel
theorem dL_law_343 : decode cL_law 343 = .ok (.if_icmp .eq 420, 3) := by decide +kernel
theorem dL_law_346 : decode cL_law 346 = .ok (.iconst 0, 1) := by decide +kernel
theorem dL_law_347 : decode cL_law 347 = .ok (.ireturn, 1) := by decide +kernel
theorem dL_law_348 : decode cL_law 348 = .ok (.aload_n 1, 1) := by decide +kernel
theorem dL_law_349 : decode cL_law 349 = .ok (.aload_n 0, 1) := by decide +kernel
theorem dL_law_350 : decode cL_law 350 = .ok (.iload_n 3, 1) := by decide +kernel
theorem dL_law_351 : decode cL_law 351 = .ok (.iconst 1, 1) := by decide +kernel
theorem dL_law_352 : decode cL_law 352 = .ok (.iadd, 1) := by decide +kernel
theorem dL_law_353 : decode cL_law 353 = .ok (.iaload, 1) := by decide +kernel
theorem dL_law_354 : decode cL_law 354 = .ok (.aload_n 0, 1) := by decide +kernel
theorem dL_law_355 : decode cL_law 355 = .ok (.iload_n 3, 1) := by decide +kernel
theorem dL_law_356 : decode cL_law 356 = .ok (.iconst 2, 1) := by decide +kernel
theorem dL_law_357 : decode cL_law 357 = .ok (.iadd, 1) := by decide +kernel
theorem dL_law_358 : decode cL_law 358 = .ok (.iaload, 1) := by decide +kernel
theorem dL_law_359 : decode cL_law 359 = .ok (.invokevirtual 50, 3) := by decide +kernel
theorem dL_law_362 : decode cL_law 362 = .ok (.aload_n 2, 1) := by decide +kernel
theorem dL_law_363 : decode cL_law 363 = .ok (.aload_n 0, 1) := by decide +kernel
theorem dL_law_364 : decode cL_law 364 = .ok (.iload_n 3, 1) := by decide +kernel
theorem dL_law_365 : decode cL_law 365 = .ok (.iconst 1, 1) := by decide +kernel
theorem dL_law_366 : decode cL_law 366 = .ok (.iadd, 1) := by decide +kernel
theorem dL_law_367 : decode cL_law 367 = .ok (.iaload, 1) := by decide +kernel
theorem dL_law_368 : decode cL_law 368 = .ok (.aload_n 0, 1) := by decide +kernel
theorem dL_law_369 : decode cL_law 369 = .ok (.iload_n 3, 1) := by decide +kernel
theorem dL_law_370 : decode cL_law 370 = .ok (.iconst 2, 1) := by decide +kernel
theorem dL_law_371 : decode cL_law 371 = .ok (.iadd, 1) := by decide +kernel
theorem dL_law_372 : decode cL_law 372 = .ok (.iaload, 1) := by decide +kernel
theorem dL_law_373 : decode cL_law 373 = .ok (.invokevirtual 53, 3) := by decide +kernel
theorem dL_law_376 : decode cL_law 376 = .ok (.if_icmp .eq 387, 3) := by decide +kernel
theorem dL_law_379 : decode cL_law 379 = .ok (.iconst 0, 1) := by decide +kernel
theorem dL_law_380 : decode cL_law 380 = .ok (.ireturn, 1) := by decide +kernel
theorem dL_law_381 : decode cL_law 381 = .ok (.aload_n 1, 1) := by decide +kernel
theorem dL_law_382 : decode cL_law 382 = .ok (.aload_n 0, 1) := by decide +kernel
theorem dL_law_383 : decode cL_law 383 = .ok (.iload_n 3, 1) := by decide +kernel
theorem dL_law_384 : decode cL_law 384 = .ok (.iconst 1, 1) := by decide +kernel
theorem dL_law_385 : decode cL_law 385 = .ok (.iadd, 1) := by decide +kernel
theorem dL_law_386 : decode cL_law 386 = .ok (.iaload, 1) := by decide +kernel
theorem dL_law_387 : decode cL_law 387 = .ok (.invokevirtual 54, 3) := by decide +kernel
theorem dL_law_390 : decode cL_law 390 = .ok (.aload_n 2, 1) := by decide +kernel
theorem dL_law_391 : decode cL_law 391 = .ok (.aload_n 0, 1) := by decide +kernel
theorem dL_law_392 : decode cL_law 392 = .ok (.iload_n 3, 1) := by decide +kernel
theorem dL_law_393 : decode cL_law 393 = .ok (.iconst 1, 1) := by decide +kernel
theorem dL_law_394 : decode cL_law 394 = .ok (.iadd, 1) := by decide +kernel
theorem dL_law_395 : decode cL_law 395 = .ok (.iaload, 1) := by decide +kernel
theorem dL_law_396 : decode cL_law 396 = .ok (.invokevirtual 57, 3) := by decide +kernel
theorem dL_law_399 : decode cL_law 399 = .ok (.if_icmp .eq 364, 3) := by decide +kernel
theorem dL_law_402 : decode cL_law 402 = .ok (.iconst 0, 1) := by decide +kernel
theorem dL_law_403 : decode cL_law 403 = .ok (.ireturn, 1) := by decide +kernel
theorem dL_law_404 : decode cL_law 404 = .ok (.aload_n 1, 1) := by decide +kernel
theorem dL_law_405 : decode cL_law 405 = .ok (.invokevirtual 58, 3) := by decide +kernel
theorem dL_law_408 : decode cL_law 408 = .ok (.aload_n 2, 1) := by decide +kernel
theorem dL_law_409 : decode cL_law 409 = .ok (.invokevirtual 61, 3) := by decide +kernel
theorem dL_law_412 : decode cL_law 412 = .ok (.if_icmp .eq 351, 3) := by decide +kernel
theorem dL_law_415 : decode cL_law 415 = .ok (.iconst 0, 1) := by decide +kernel
theorem dL_law_416 : decode cL_law 416 = .ok (.ireturn, 1) := by decide +kernel
theorem dL_law_417 : decode cL_law 417 = .ok (.aload_n 1, 1) := by decide +kernel
theorem dL_law_418 : decode cL_law 418 = .ok (.invokevirtual 62, 3) := by decide +kernel
theorem dL_law_421 : decode cL_law 421 = .ok (.aload_n 2, 1) := by decide +kernel
theorem dL_law_422 : decode cL_law 422 = .ok (.invokevirtual 65, 3) := by decide +kernel
theorem dL_law_425 : decode cL_law 425 = .ok (.if_icmp .eq 338, 3) := by decide +kernel
theorem dL_law_428 : decode cL_law 428 = .ok (.iconst 0, 1) := by decide +kernel
theorem dL_law_429 : decode cL_law 429 = .ok (.ireturn, 1) := by decide +kernel
theorem dL_law_430 : decode cL_law 430 = .ok (.aload_n 1, 1) := by decide +kernel
theorem dL_law_431 : decode cL_law 431 = .ok (.invokevirtual 66, 3) := by decide +kernel
theorem dL_law_434 : decode cL_law 434 = .ok (.aload_n 2, 1) := by decide +kernel
theorem dL_law_435 : decode cL_law 435 = .ok (.invokevirtual 69, 3) := by decide +kernel
theorem dL_law_438 : decode cL_law 438 = .ok (.if_icmp .eq 325, 3) := by decide +kernel
theorem dL_law_441 : decode cL_law 441 = .ok (.iconst 0, 1) := by decide +kernel
theorem dL_law_442 : decode cL_law 442 = .ok (.ireturn, 1) := by decide +kernel
theorem dL_law_443 : decode cL_law 443 = .ok (.aload_n 1, 1) := by decide +kernel
theorem dL_law_444 : decode cL_law 444 = .ok (.invokevirtual 70, 3) := by decide +kernel
theorem dL_law_447 : decode cL_law 447 = .ok (.aload_n 2, 1) := by decide +kernel
theorem dL_law_448 : decode cL_law 448 = .ok (.invokevirtual 73, 3) := by decide +kernel
theorem dL_law_451 : decode cL_law 451 = .ok (.if_icmp .eq 312, 3) := by decide +kernel
theorem dL_law_454 : decode cL_law 454 = .ok (.iconst 0, 1) := by decide +kernel
theorem dL_law_455 : decode cL_law 455 = .ok (.ireturn, 1) := by decide +kernel
theorem dL_law_456 : decode cL_law 456 = .ok (.aload_n 1, 1) := by decide +kernel
theorem dL_law_457 : decode cL_law 457 = .ok (.aload_n 0, 1) := by decide +kernel
theorem dL_law_458 : decode cL_law 458 = .ok (.iload_n 3, 1) := by decide +kernel
theorem dL_law_459 : decode cL_law 459 = .ok (.iconst 1, 1) := by decide +kernel
theorem dL_law_460 : decode cL_law 460 = .ok (.iadd, 1) := by decide +kernel
theorem dL_law_461 : decode cL_law 461 = .ok (.iaload, 1) := by decide +kernel
theorem dL_law_462 : decode cL_law 462 = .ok (.aload_n 0, 1) := by decide +kernel
theorem dL_law_463 : decode cL_law 463 = .ok (.iload_n 3, 1) := by decide +kernel
theorem dL_law_464 : decode cL_law 464 = .ok (.iconst 2, 1) := by decide +kernel
theorem dL_law_465 : decode cL_law 465 = .ok (.iadd, 1) := by decide +kernel
theorem dL_law_466 : decode cL_law 466 = .ok (.iaload, 1) := by decide +kernel
theorem dL_law_467 : decode cL_law 467 = .ok (.invokevirtual 74, 3) := by decide +kernel
theorem dL_law_470 : decode cL_law 470 = .ok (.aload_n 2, 1) := by decide +kernel
theorem dL_law_471 : decode cL_law 471 = .ok (.aload_n 0, 1) := by decide +kernel
theorem dL_law_472 : decode cL_law 472 = .ok (.iload_n 3, 1) := by decide +kernel
theorem dL_law_473 : decode cL_law 473 = .ok (.iconst 1, 1) := by decide +kernel
theorem dL_law_474 : decode cL_law 474 = .ok (.iadd, 1) := by decide +kernel
theorem dL_law_475 : decode cL_law 475 = .ok (.iaload, 1) := by decide +kernel
theorem dL_law_476 : decode cL_law 476 = .ok (.aload_n 0, 1) := by decide +kernel
theorem dL_law_477 : decode cL_law 477 = .ok (.iload_n 3, 1) := by decide +kernel
theorem dL_law_478 : decode cL_law 478 = .ok (.iconst 2, 1) := by decide +kernel
theorem dL_law_479 : decode cL_law 479 = .ok (.iadd, 1) := by decide +kernel
theorem dL_law_480 : decode cL_law 480 = .ok (.iaload, 1) := by decide +kernel
theorem dL_law_481 : decode cL_law 481 = .ok (.invokevirtual 77, 3) := by decide +kernel
theorem dL_law_484 : decode cL_law 484 = .ok (.if_icmp .eq 279, 3) := by decide +kernel
theorem dL_law_487 : decode cL_law 487 = .ok (.iconst 0, 1) := by decide +kernel
theorem dL_law_488 : decode cL_law 488 = .ok (.ireturn, 1) := by decide +kernel
theorem dL_law_489 : decode cL_law 489 = .ok (.aload_n 1, 1) := by decide +kernel
theorem dL_law_490 : decode cL_law 490 = .ok (.aload_n 0, 1) := by decide +kernel
theorem dL_law_491 : decode cL_law 491 = .ok (.iload_n 3, 1) := by decide +kernel
theorem dL_law_492 : decode cL_law 492 = .ok (.iconst 1, 1) := by decide +kernel
theorem dL_law_493 : decode cL_law 493 = .ok (.iadd, 1) := by decide +kernel
theorem dL_law_494 : decode cL_law 494 = .ok (.iaload, 1) := by decide +kernel
theorem dL_law_495 : decode cL_law 495 = .ok (.aload_n 0, 1) := by decide +kernel
theorem dL_law_496 : decode cL_law 496 = .ok (.iload_n 3, 1) := by decide +kernel
theorem dL_law_497 : decode cL_law 497 = .ok (.iconst 2, 1) := by decide +kernel
theorem dL_law_498 : decode cL_law 498 = .ok (.iadd, 1) := by decide +kernel
theorem dL_law_499 : decode cL_law 499 = .ok (.iaload, 1) := by decide +kernel
theorem dL_law_500 : decode cL_law 500 = .ok (.aload_n 0, 1) := by decide +kernel
theorem dL_law_501 : decode cL_law 501 = .ok (.iload_n 3, 1) := by decide +kernel
theorem dL_law_502 : decode cL_law 502 = .ok (.iconst 3, 1) := by decide +kernel
theorem dL_law_503 : decode cL_law 503 = .ok (.iadd, 1) := by decide +kernel
theorem dL_law_504 : decode cL_law 504 = .ok (.iaload, 1) := by decide +kernel
theorem dL_law_505 : decode cL_law 505 = .ok (.invokevirtual 78, 3) := by decide +kernel
theorem dL_law_508 : decode cL_law 508 = .ok (.aload_n 2, 1) := by decide +kernel
theorem dL_law_509 : decode cL_law 509 = .ok (.aload_n 0, 1) := by decide +kernel
theorem dL_law_510 : decode cL_law 510 = .ok (.iload_n 3, 1) := by decide +kernel
theorem dL_law_511 : decode cL_law 511 = .ok (.iconst 1, 1) := by decide +kernel
theorem dL_law_512 : decode cL_law 512 = .ok (.iadd, 1) := by decide +kernel
theorem dL_law_513 : decode cL_law 513 = .ok (.iaload, 1) := by decide +kernel
theorem dL_law_514 : decode cL_law 514 = .ok (.aload_n 0, 1) := by decide +kernel
theorem dL_law_515 : decode cL_law 515 = .ok (.iload_n 3, 1) := by decide +kernel
theorem dL_law_516 : decode cL_law 516 = .ok (.iconst 2, 1) := by decide +kernel
theorem dL_law_517 : decode cL_law 517 = .ok (.iadd, 1) := by decide +kernel
theorem dL_law_518 : decode cL_law 518 = .ok (.iaload, 1) := by decide +kernel
theorem dL_law_519 : decode cL_law 519 = .ok (.aload_n 0, 1) := by decide +kernel
theorem dL_law_520 : decode cL_law 520 = .ok (.iload_n 3, 1) := by decide +kernel
theorem dL_law_521 : decode cL_law 521 = .ok (.iconst 3, 1) := by decide +kernel
theorem dL_law_522 : decode cL_law 522 = .ok (.iadd, 1) := by decide +kernel
theorem dL_law_523 : decode cL_law 523 = .ok (.iaload, 1) := by decide +kernel
theorem dL_law_524 : decode cL_law 524 = .ok (.invokevirtual 82, 3) := by decide +kernel
theorem dL_law_527 : decode cL_law 527 = .ok (.if_icmp .eq 236, 3) := by decide +kernel
theorem dL_law_530 : decode cL_law 530 = .ok (.iconst 0, 1) := by decide +kernel
theorem dL_law_531 : decode cL_law 531 = .ok (.ireturn, 1) := by decide +kernel
theorem dL_law_532 : decode cL_law 532 = .ok (.aload_n 1, 1) := by decide +kernel
theorem dL_law_533 : decode cL_law 533 = .ok (.aload_n 0, 1) := by decide +kernel
theorem dL_law_534 : decode cL_law 534 = .ok (.iload_n 3, 1) := by decide +kernel
theorem dL_law_535 : decode cL_law 535 = .ok (.iconst 1, 1) := by decide +kernel
theorem dL_law_536 : decode cL_law 536 = .ok (.iadd, 1) := by decide +kernel
theorem dL_law_537 : decode cL_law 537 = .ok (.iaload, 1) := by decide +kernel
theorem dL_law_538 : decode cL_law 538 = .ok (.aload_n 0, 1) := by decide +kernel
theorem dL_law_539 : decode cL_law 539 = .ok (.iload_n 3, 1) := by decide +kernel
theorem dL_law_540 : decode cL_law 540 = .ok (.iconst 2, 1) := by decide +kernel
theorem dL_law_541 : decode cL_law 541 = .ok (.iadd, 1) := by decide +kernel
theorem dL_law_542 : decode cL_law 542 = .ok (.iaload, 1) := by decide +kernel
theorem dL_law_543 : decode cL_law 543 = .ok (.invokevirtual 83, 3) := by decide +kernel
theorem dL_law_546 : decode cL_law 546 = .ok (.aload_n 2, 1) := by decide +kernel
theorem dL_law_547 : decode cL_law 547 = .ok (.aload_n 0, 1) := by decide +kernel
theorem dL_law_548 : decode cL_law 548 = .ok (.iload_n 3, 1) := by decide +kernel
theorem dL_law_549 : decode cL_law 549 = .ok (.iconst 1, 1) := by decide +kernel
theorem dL_law_550 : decode cL_law 550 = .ok (.iadd, 1) := by decide +kernel
theorem dL_law_551 : decode cL_law 551 = .ok (.iaload, 1) := by decide +kernel
theorem dL_law_552 : decode cL_law 552 = .ok (.aload_n 0, 1) := by decide +kernel
theorem dL_law_553 : decode cL_law 553 = .ok (.iload_n 3, 1) := by decide +kernel
theorem dL_law_554 : decode cL_law 554 = .ok (.iconst 2, 1) := by decide +kernel
theorem dL_law_555 : decode cL_law 555 = .ok (.iadd, 1) := by decide +kernel
theorem dL_law_556 : decode cL_law 556 = .ok (.iaload, 1) := by decide +kernel
theorem dL_law_557 : decode cL_law 557 = .ok (.invokevirtual 86, 3) := by decide +kernel
theorem dL_law_560 : decode cL_law 560 = .ok (.if_icmp .eq 203, 3) := by decide +kernel
theorem dL_law_563 : decode cL_law 563 = .ok (.iconst 0, 1) := by decide +kernel
theorem dL_law_564 : decode cL_law 564 = .ok (.ireturn, 1) := by decide +kernel
theorem dL_law_565 : decode cL_law 565 = .ok (.aload_n 1, 1) := by decide +kernel
theorem dL_law_566 : decode cL_law 566 = .ok (.invokevirtual 87, 3) := by decide +kernel
theorem dL_law_569 : decode cL_law 569 = .ok (.aload_n 2, 1) := by decide +kernel
theorem dL_law_570 : decode cL_law 570 = .ok (.invokevirtual 90, 3) := by decide +kernel
theorem dL_law_573 : decode cL_law 573 = .ok (.if_icmp .eq 190, 3) := by decide +kernel
theorem dL_law_576 : decode cL_law 576 = .ok (.iconst 0, 1) := by decide +kernel
theorem dL_law_577 : decode cL_law 577 = .ok (.ireturn, 1) := by decide +kernel
theorem dL_law_578 : decode cL_law 578 = .ok (.aload_n 1, 1) := by decide +kernel
theorem dL_law_579 : decode cL_law 579 = .ok (.aload_n 0, 1) := by decide +kernel
theorem dL_law_580 : decode cL_law 580 = .ok (.iload_n 3, 1) := by decide +kernel
theorem dL_law_581 : decode cL_law 581 = .ok (.iconst 1, 1) := by decide +kernel
theorem dL_law_582 : decode cL_law 582 = .ok (.iadd, 1) := by decide +kernel
theorem dL_law_583 : decode cL_law 583 = .ok (.iaload, 1) := by decide +kernel
theorem dL_law_584 : decode cL_law 584 = .ok (.aload_n 0, 1) := by decide +kernel
theorem dL_law_585 : decode cL_law 585 = .ok (.iload_n 3, 1) := by decide +kernel
theorem dL_law_586 : decode cL_law 586 = .ok (.iconst 2, 1) := by decide +kernel
theorem dL_law_587 : decode cL_law 587 = .ok (.iadd, 1) := by decide +kernel
theorem dL_law_588 : decode cL_law 588 = .ok (.iaload, 1) := by decide +kernel
theorem dL_law_589 : decode cL_law 589 = .ok (.invokevirtual 91, 3) := by decide +kernel
theorem dL_law_592 : decode cL_law 592 = .ok (.aload_n 2, 1) := by decide +kernel
theorem dL_law_593 : decode cL_law 593 = .ok (.aload_n 0, 1) := by decide +kernel
theorem dL_law_594 : decode cL_law 594 = .ok (.iload_n 3, 1) := by decide +kernel
theorem dL_law_595 : decode cL_law 595 = .ok (.iconst 1, 1) := by decide +kernel
theorem dL_law_596 : decode cL_law 596 = .ok (.iadd, 1) := by decide +kernel
theorem dL_law_597 : decode cL_law 597 = .ok (.iaload, 1) := by decide +kernel
theorem dL_law_598 : decode cL_law 598 = .ok (.aload_n 0, 1) := by decide +kernel
theorem dL_law_599 : decode cL_law 599 = .ok (.iload_n 3, 1) := by decide +kernel
theorem dL_law_600 : decode cL_law 600 = .ok (.iconst 2, 1) := by decide +kernel
theorem dL_law_601 : decode cL_law 601 = .ok (.iadd, 1) := by decide +kernel
theorem dL_law_602 : decode cL_law 602 = .ok (.iaload, 1) := by decide +kernel
theorem dL_law_603 : decode cL_law 603 = .ok (.invokevirtual 94, 3) := by decide +kernel
theorem dL_law_606 : decode cL_law 606 = .ok (.if_icmp .eq 157, 3) := by decide +kernel
theorem dL_law_609 : decode cL_law 609 = .ok (.iconst 0, 1) := by decide +kernel
theorem dL_law_610 : decode cL_law 610 = .ok (.ireturn, 1) := by decide +kernel
theorem dL_law_611 : decode cL_law 611 = .ok (.aload_n 1, 1) := by decide +kernel
theorem dL_law_612 : decode cL_law 612 = .ok (.aload_n 0, 1) := by decide +kernel
theorem dL_law_613 : decode cL_law 613 = .ok (.iload_n 3, 1) := by decide +kernel
theorem dL_law_614 : decode cL_law 614 = .ok (.iconst 1, 1) := by decide +kernel
theorem dL_law_615 : decode cL_law 615 = .ok (.iadd, 1) := by decide +kernel
theorem dL_law_616 : decode cL_law 616 = .ok (.iaload, 1) := by decide +kernel
theorem dL_law_617 : decode cL_law 617 = .ok (.invokevirtual 95, 3) := by decide +kernel
theorem dL_law_620 : decode cL_law 620 = .ok (.aload_n 2, 1) := by decide +kernel
theorem dL_law_621 : decode cL_law 621 = .ok (.aload_n 0, 1) := by decide +kernel
theorem dL_law_622 : decode cL_law 622 = .ok (.iload_n 3, 1) := by decide +kernel
theorem dL_law_623 : decode cL_law 623 = .ok (.iconst 1, 1) := by decide +kernel
theorem dL_law_624 : decode cL_law 624 = .ok (.iadd, 1) := by decide +kernel
theorem dL_law_625 : decode cL_law 625 = .ok (.iaload, 1) := by decide +kernel
theorem dL_law_626 : decode cL_law 626 = .ok (.invokevirtual 98, 3) := by decide +kernel
theorem dL_law_629 : decode cL_law 629 = .ok (.if_icmp .eq 134, 3) := by decide +kernel
theorem dL_law_632 : decode cL_law 632 = .ok (.iconst 0, 1) := by decide +kernel
theorem dL_law_633 : decode cL_law 633 = .ok (.ireturn, 1) := by decide +kernel
theorem dL_law_634 : decode cL_law 634 = .ok (.aload_n 1, 1) := by decide +kernel
theorem dL_law_635 : decode cL_law 635 = .ok (.aload_n 0, 1) := by decide +kernel
theorem dL_law_636 : decode cL_law 636 = .ok (.iload_n 3, 1) := by decide +kernel
theorem dL_law_637 : decode cL_law 637 = .ok (.iconst 1, 1) := by decide +kernel
theorem dL_law_638 : decode cL_law 638 = .ok (.iadd, 1) := by decide +kernel
theorem dL_law_639 : decode cL_law 639 = .ok (.iaload, 1) := by decide +kernel
theorem dL_law_640 : decode cL_law 640 = .ok (.invokevirtual 99, 3) := by decide +kernel
theorem dL_law_643 : decode cL_law 643 = .ok (.aload_n 2, 1) := by decide +kernel
theorem dL_law_644 : decode cL_law 644 = .ok (.aload_n 0, 1) := by decide +kernel
theorem dL_law_645 : decode cL_law 645 = .ok (.iload_n 3, 1) := by decide +kernel
theorem dL_law_646 : decode cL_law 646 = .ok (.iconst 1, 1) := by decide +kernel
theorem dL_law_647 : decode cL_law 647 = .ok (.iadd, 1) := by decide +kernel
theorem dL_law_648 : decode cL_law 648 = .ok (.iaload, 1) := by decide +kernel
theorem dL_law_649 : decode cL_law 649 = .ok (.invokevirtual 102, 3) := by decide +kernel
theorem dL_law_652 : decode cL_law 652 = .ok (.if_icmp .eq 111, 3) := by decide +kernel
theorem dL_law_655 : decode cL_law 655 = .ok (.iconst 0, 1) := by decide +kernel
theorem dL_law_656 : decode cL_law 656 = .ok (.ireturn, 1) := by decide +kernel
theorem dL_law_657 : decode cL_law 657 = .ok (.aload_n 1, 1) := by decide +kernel
theorem dL_law_658 : decode cL_law 658 = .ok (.invokevirtual 103, 3) := by decide +kernel
theorem dL_law_661 : decode cL_law 661 = .ok (.aload_n 2, 1) := by decide +kernel
theorem dL_law_662 : decode cL_law 662 = .ok (.invokevirtual 106, 3) := by decide +kernel
theorem dL_law_665 : decode cL_law 665 = .ok (.if_icmp .eq 98, 3) := by decide +kernel
theorem dL_law_668 : decode cL_law 668 = .ok (.iconst 0, 1) := by decide +kernel
theorem dL_law_669 : decode cL_law 669 = .ok (.ireturn, 1) := by decide +kernel
theorem dL_law_670 : decode cL_law 670 = .ok (.aload_n 1, 1) := by decide +kernel
theorem dL_law_671 : decode cL_law 671 = .ok (.aload_n 0, 1) := by decide +kernel
theorem dL_law_672 : decode cL_law 672 = .ok (.iload_n 3, 1) := by decide +kernel
theorem dL_law_673 : decode cL_law 673 = .ok (.iconst 1, 1) := by decide +kernel
theorem dL_law_674 : decode cL_law 674 = .ok (.iadd, 1) := by decide +kernel
theorem dL_law_675 : decode cL_law 675 = .ok (.iaload, 1) := by decide +kernel
theorem dL_law_676 : decode cL_law 676 = .ok (.i2c, 1) := by decide +kernel
theorem dL_law_677 : decode cL_law 677 = .ok (.aload_n 0, 1) := by decide +kernel
theorem dL_law_678 : decode cL_law 678 = .ok (.iload_n 3, 1) := by decide +kernel
theorem dL_law_679 : decode cL_law 679 = .ok (.iconst 2, 1) := by decide +kernel
theorem dL_law_680 : decode cL_law 680 = .ok (.iadd, 1) := by decide +kernel
theorem dL_law_681 : decode cL_law 681 = .ok (.iaload, 1) := by decide +kernel
theorem dL_law_682 : decode cL_law 682 = .ok (.i2c, 1) := by decide +kernel
theorem dL_law_683 : decode cL_law 683 = .ok (.invokevirtual 107, 3) := by decide +kernel
theorem dL_law_686 : decode cL_law 686 = .ok (.aload_n 2, 1) := by decide +kernel
theorem dL_law_687 : decode cL_law 687 = .ok (.aload_n 0, 1) := by decide +kernel
theorem dL_law_688 : decode cL_law 688 = .ok (.iload_n 3, 1) := by decide +kernel
theorem dL_law_689 : decode cL_law 689 = .ok (.iconst 1, 1) := by decide +kernel
theorem dL_law_690 : decode cL_law 690 = .ok (.iadd, 1) := by decide +kernel
theorem dL_law_691 : decode cL_law 691 = .ok (.iaload, 1) := by decide +kernel
theorem dL_law_692 : decode cL_law 692 = .ok (.i2c, 1) := by decide +kernel
theorem dL_law_693 : decode cL_law 693 = .ok (.aload_n 0, 1) := by decide +kernel
theorem dL_law_694 : decode cL_law 694 = .ok (.iload_n 3, 1) := by decide +kernel
theorem dL_law_695 : decode cL_law 695 = .ok (.iconst 2, 1) := by decide +kernel
theorem dL_law_696 : decode cL_law 696 = .ok (.iadd, 1) := by decide +kernel
theorem dL_law_697 : decode cL_law 697 = .ok (.iaload, 1) := by decide +kernel
theorem dL_law_698 : decode cL_law 698 = .ok (.i2c, 1) := by decide +kernel
theorem dL_law_699 : decode cL_law 699 = .ok (.invokevirtual 111, 3) := by decide +kernel
theorem dL_law_702 : decode cL_law 702 = .ok (.if_icmp .eq 61, 3) := by decide +kernel
theorem dL_law_705 : decode cL_law 705 = .ok (.iconst 0, 1) := by decide +kernel
theorem dL_law_706 : decode cL_law 706 = .ok (.ireturn, 1) := by decide +kernel
theorem dL_law_707 : decode cL_law 707 = .ok (.aload_n 1, 1) := by decide +kernel
theorem dL_law_708 : decode cL_law 708 = .ok (.aload_n 0, 1) := by decide +kernel
theorem dL_law_709 : decode cL_law 709 = .ok (.iload_n 3, 1) := by decide +kernel
theorem dL_law_710 : decode cL_law 710 = .ok (.iconst 1, 1) := by decide +kernel
theorem dL_law_711 : decode cL_law 711 = .ok (.iadd, 1) := by decide +kernel
theorem dL_law_712 : decode cL_law 712 = .ok (.iaload, 1) := by decide +kernel
theorem dL_law_713 : decode cL_law 713 = .ok (.aload_n 0, 1) := by decide +kernel
theorem dL_law_714 : decode cL_law 714 = .ok (.iload_n 3, 1) := by decide +kernel
theorem dL_law_715 : decode cL_law 715 = .ok (.iconst 2, 1) := by decide +kernel
theorem dL_law_716 : decode cL_law 716 = .ok (.iadd, 1) := by decide +kernel
theorem dL_law_717 : decode cL_law 717 = .ok (.iaload, 1) := by decide +kernel
theorem dL_law_718 : decode cL_law 718 = .ok (.invokevirtual 112, 3) := by decide +kernel
theorem dL_law_721 : decode cL_law 721 = .ok (.aload_n 2, 1) := by decide +kernel
theorem dL_law_722 : decode cL_law 722 = .ok (.aload_n 0, 1) := by decide +kernel
theorem dL_law_723 : decode cL_law 723 = .ok (.iload_n 3, 1) := by decide +kernel
theorem dL_law_724 : decode cL_law 724 = .ok (.iconst 1, 1) := by decide +kernel
theorem dL_law_725 : decode cL_law 725 = .ok (.iadd, 1) := by decide +kernel
theorem dL_law_726 : decode cL_law 726 = .ok (.iaload, 1) := by decide +kernel
theorem dL_law_727 : decode cL_law 727 = .ok (.aload_n 0, 1) := by decide +kernel
theorem dL_law_728 : decode cL_law 728 = .ok (.iload_n 3, 1) := by decide +kernel
theorem dL_law_729 : decode cL_law 729 = .ok (.iconst 2, 1) := by decide +kernel
theorem dL_law_730 : decode cL_law 730 = .ok (.iadd, 1) := by decide +kernel
theorem dL_law_731 : decode cL_law 731 = .ok (.iaload, 1) := by decide +kernel
theorem dL_law_732 : decode cL_law 732 = .ok (.invokevirtual 115, 3) := by decide +kernel
theorem dL_law_735 : decode cL_law 735 = .ok (.if_icmp .eq 28, 3) := by decide +kernel
theorem dL_law_738 : decode cL_law 738 = .ok (.iconst 0, 1) := by decide +kernel
theorem dL_law_739 : decode cL_law 739 = .ok (.ireturn, 1) := by decide +kernel
theorem dL_law_740 : decode cL_law 740 = .ok (.aload_n 1, 1) := by decide +kernel
theorem dL_law_741 : decode cL_law 741 = .ok (.aload_n 0, 1) := by decide +kernel
theorem dL_law_742 : decode cL_law 742 = .ok (.iload_n 3, 1) := by decide +kernel
theorem dL_law_743 : decode cL_law 743 = .ok (.iconst 1, 1) := by decide +kernel
theorem dL_law_744 : decode cL_law 744 = .ok (.iadd, 1) := by decide +kernel
theorem dL_law_745 : decode cL_law 745 = .ok (.iaload, 1) := by decide +kernel
theorem dL_law_746 : decode cL_law 746 = .ok (.invokevirtual 116, 3) := by decide +kernel
theorem dL_law_749 : decode cL_law 749 = .ok (.aload_n 2, 1) := by decide +kernel
theorem dL_law_750 : decode cL_law 750 = .ok (.aload_n 0, 1) := by decide +kernel
theorem dL_law_751 : decode cL_law 751 = .ok (.iload_n 3, 1) := by decide +kernel
theorem dL_law_752 : decode cL_law 752 = .ok (.iconst 1, 1) := by decide +kernel
theorem dL_law_753 : decode cL_law 753 = .ok (.iadd, 1) := by decide +kernel
theorem dL_law_754 : decode cL_law 754 = .ok (.iaload, 1) := by decide +kernel
theorem dL_law_755 : decode cL_law 755 = .ok (.invokevirtual 119, 3) := by decide +kernel
theorem dL_law_758 : decode cL_law 758 = .ok (.if_icmp .eq 5, 3) := by decide +kernel
theorem dL_law_761 : decode cL_law 761 = .ok (.iconst 0, 1) := by decide +kernel
theorem dL_law_762 : decode cL_law 762 = .ok (.ireturn, 1) := by decide +kernel
theorem dL_law_763 : decode cL_law 763 = .ok (.iinc 3 4, 3) := by decide +kernel
theorem dL_law_766 : decode cL_law 766 = .ok (.goto (-748), 3) := by decide +kernel
theorem dL_law_769 : decode cL_law 769 = .ok (.iconst 1, 1) := by decide +kernel
theorem dL_law_770 : decode cL_law 770 = .ok (.ireturn, 1) := by decide +kernel
abbrev vwCl : List vw_C := [(RX0, TX0, 3), (RX1, TX1, 3), (RX2, TX2, 4), (RX4, TX4, 10), (RX5, TX5, 2), (RX6, TX6, 5), (RX7, TX7, 7)]
end
section
/-! ===== derived rows: numbers that are naturals, booleans, methods that only read, methods that write ===== -/
abbrev GG : Type := va_G × ClassId × ClassId × ClassId
def T3 (G : GG) : List (ClassId × FieldType) := [(G.2.1, .char), (G.2.2.1, .int), (G.2.2.2, .object "NamePlate$State")]
def Wd (G : GG) (ws : va_W) (U : State) : Prop := va_P G.1 vwCl ws U.heap ∧ va_K G.1 vwCl (T3 G) U
def RO (l : Launch) (y : MethodName) (wsy : List Cond) (fr lo : Nat) (G : GG) (ws : va_W) (av : List Value) (v : Int32) : Prop := Met l y wsy ({ frames := fr, cells := 0, slots := 0, locals := lo } : Room) (va_Pc av (Wd G ws)) (vp_Si (fun r => r = v)) 0 0 (fun _ => False)
def wA (ws : va_W) : Nat → Prop := fun q => q ∈ ws.map Prod.fst
def QW (G : GG) (ws0 : va_W) (v : Option Value) (ws1 : va_W) : Array Value → State → Outcome → State → Prop := fun _ st oc t => (oc = .returned v ∧ va_P G.1 vwCl ws1 t.heap) ∧ va_F (wA ws0) st t
def WR (l : Launch) (y : MethodName) (wsy : List Cond) (fr lo : Nat) (G : GG) (ws0 : va_W) (av : List Value) (v : Option Value) (ws1 : va_W) : Prop := Met l y wsy ({ frames := fr, cells := 0, slots := 0, locals := lo } : Room) (va_Pc av (fun U => Wd G ws0 U ∧ va_D (fun _ => True) ws0)) (QW G ws0 v ws1) 0 0 (wA ws0)
theorem Wd.bl {G : GG} {ws : va_W} {av : List Value} : FrameBlind (va_Pc av (Wd G ws)) := fun a U g mk q => ⟨q.1, q.2.1, va_K.moved (u := U) (U := U.calling g mk a) (Vm.Alike.refl U.vm) q.2.2⟩
theorem Wd.bl2 {G : GG} {ws : va_W} {av : List Value} : FrameBlind (va_Pc av (fun U => Wd G ws U ∧ va_D (fun _ => True) ws)) := fun a U g mk q => ⟨q.1, ⟨q.2.1.1, va_K.moved (u := U) (U := U.calling g mk a) (Vm.Alike.refl U.vm) q.2.1.2⟩, q.2.2⟩
theorem wA_of {ws : va_W} {k : Nat} {q : Nat × va_E} (h : ws[k]? = some q) : wA ws q.1 := List.mem_map.mpr ⟨q, List.mem_of_getElem? h, rfl⟩
theorem wA_D {A : Nat → Prop} {ws : va_W} (h : va_D A ws) : va_D (wA ws) ws := ⟨h.1, fun _ _ hk => wA_of hk⟩
theorem RO.start {l : Launch} {y : MethodName} {wsy : List Cond} {fr lo : Nat} {G : GG} {ws : va_W} {av : List Value} {v : Int32} {cc : ByteArray} {maxL : Nat} {ret : Option FieldType} {ws' : List Cond} (hy : plainName y.cls = true) (hw : wsy = Cond.code y cc maxL ret :: ws') (hlen : (lg_sl av).length ≤ maxL)
    (body : ∀ (p : Program) (e : Env) (s : State) (m : MethodId) (below : List Frame) (meth : Method) (c : Code) (ls : Array Slot), CallFix p m c cc maxL s av.toArray wsy y.cls → meth.sig.returnType = ret → meth.locks = false → va_K G.1 vwCl (T3 G) s → va_P G.1 vwCl ws s.heap → lv_has ls maxL (lv_args 0 av) →
      W p l e ({ frames := fr, cells := 0, slots := 0, locals := lo } : Room) s m av.toArray below meth c s.heap [] 0 0 (MQ below (vp_Si (fun r => r = v)) av.toArray s 0 0 (fun _ => False)) (F0 m 0 ls [])) : RO l y wsy fr lo G ws av v := by
  refine Met.ofW hy hw ?_
  intro p e s m args below meth c s₁ B hml hv
  obtain ⟨rfl, hP, hK⟩ := hv
  have hown : s.vm.findClass y.cls = some m.cls := findClass_of_methodNamed B.named
  rw [lg_entry_eq]
  exact body p e s m below meth c _ ⟨B.exec, B.bytes, hml, hown, atoms_spec (ws := wsy) B.pre⟩ B.returns B.notSynchronized hK hP (lv_entry av hlen)
theorem WR.start {l : Launch} {y : MethodName} {wsy : List Cond} {fr lo : Nat} {G : GG} {ws0 ws1 : va_W} {av : List Value} {v : Option Value} {cc : ByteArray} {maxL : Nat} {ret : Option FieldType} {ws' : List Cond} (hy : plainName y.cls = true) (hw : wsy = Cond.code y cc maxL ret :: ws') (hlen : (lg_sl av).length ≤ maxL)
    (body : ∀ (p : Program) (e : Env) (s : State) (m : MethodId) (below : List Frame) (meth : Method) (c : Code) (ls : Array Slot), CallFix p m c cc maxL s av.toArray wsy y.cls → meth.sig.returnType = ret → meth.locks = false → va_K G.1 vwCl (T3 G) s → va_P G.1 vwCl ws0 s.heap → va_D (wA ws0) ws0 → va_S (wA ws0) s.heap s.heap [] → lv_has ls maxL (lv_args 0 av) →
      W p l e ({ frames := fr, cells := 0, slots := 0, locals := lo } : Room) s m av.toArray below meth c s.heap [] 0 0 (MQ below (QW G ws0 v ws1) av.toArray s 0 0 (wA ws0)) (F0 m 0 ls [])) : WR l y wsy fr lo G ws0 av v ws1 := by
  refine Met.ofW hy hw ?_
  intro p e s m args below meth c s₁ B hml hv
  obtain ⟨rfl, ⟨hP, hK⟩, hD⟩ := hv
  have hown : s.vm.findClass y.cls = some m.cls := findClass_of_methodNamed B.named
  rw [lg_entry_eq]
  exact body p e s m below meth c _ ⟨B.exec, B.bytes, hml, hown, atoms_spec (ws := wsy) B.pre⟩ B.returns B.notSynchronized hK hP (wA_D hD) va_S.rf (lv_entry av hlen)
def b2i (b : Bool) : Int32 := if b then 1 else 0
theorem b2i_t : b2i true = 1 := rfl
theorem b2i_f : b2i false = 0 := rfl
theorem b2i_nar (b : Bool) : narrow .boolean (.int (b2i b)) = .int (b2i b) := by cases b <;> rfl
theorem b2i_0 {b : Bool} : b2i b = 0 ↔ b = false := by cases b <;> decide
section NV
variable {p : Program} {l : Launch} {e : Env} {R : Room} {s : State} {m : MethodId} {args : Array Value} {below : List Frame} {meth : Method} {c : Code} {H : Heap} {locs : List Loc} {cells slots : Nat} {Q : State → Prop}
variable {cc : ByteArray} {pc nL : Nat} {ls : Array Slot} {rest st0 : List Value} {Ts wsy : List Cond} {own : String} {G : GG} {A0 : Nat → Prop} {H0 : Heap}
theorem RO.ret {v x : Int32} (cx : CallFix p m c cc nL s args Ts own) (hr : meth.sig.returnType = some .int) (hlocks : meth.locks = false) (hd : decode cc pc = .ok (.ireturn, 1)) (hv : x = v) : W p l e R s m args below meth c s.heap [] 0 0 (MQ below (vp_Si (fun r => r = v)) args s 0 0 (fun _ => False)) (F0 m pc ls [.int x]) :=
  W.iret cx.1 cx.2.1 hr (fun t ht _ => ⟨x, rfl, hv, ht⟩) (fun q h => by cases h) hd hlocks
theorem RO.retz {b : Bool} {v x : Int32} (cx : CallFix p m c cc nL s args Ts own) (hr : meth.sig.returnType = some .boolean) (hlocks : meth.locks = false) (hd : decode cc pc = .ok (.ireturn, 1)) (hv : x = b2i b) (hv2 : b2i b = v) : W p l e R s m args below meth c s.heap [] 0 0 (MQ below (vp_Si (fun r => r = v)) args s 0 0 (fun _ => False)) (F0 m pc ls [.int x]) :=
  W.zret cx.1 cx.2.1 hr (by rw [hv]; exact b2i_nar b) (fun t ht _ => ⟨x, rfl, hv.trans hv2, ht⟩) (fun q h => by cases h) hd hlocks
theorem RO.retc {v x : Int32} (cx : CallFix p m c cc nL s args Ts own) (hr : meth.sig.returnType = some .char) (hlocks : meth.locks = false) (hd : decode cc pc = .ok (.ireturn, 1)) (hn : narrow .char (.int x) = .int x) (hv : x = v) : W p l e R s m args below meth c s.heap [] 0 0 (MQ below (vp_Si (fun r => r = v)) args s 0 0 (fun _ => False)) (F0 m pc ls [.int x]) :=
  W.zret cx.1 cx.2.1 hr hn (fun t ht _ => ⟨x, rfl, hv, ht⟩) (fun q h => by cases h) hd hlocks
theorem WR.ret {ws0 ws1 : va_W} {v x : Int32} (cx : CallFix p m c cc nL s args Ts own) (hr : meth.sig.returnType = some .int) (hlocks : meth.locks = false) (hd : decode cc pc = .ok (.ireturn, 1)) (hv : x = v) (hP : va_P G.1 vwCl ws1 H) (hS : va_S (wA ws0) s.heap H locs) : W p l e R s m args below meth c H locs 0 0 (MQ below (QW G ws0 (some (.int v)) ws1) args s 0 0 (wA ws0)) (F0 m pc ls [.int x]) :=
  W.iret cx.1 cx.2.1 hr (fun t ht _ => ⟨⟨by rw [hv], by rw [ht]; exact hP⟩, hS.F ht⟩) hS.2.2 hd hlocks
theorem WR.retv {ws0 ws1 : va_W} (cx : CallFix p m c cc nL s args Ts own) (hr : meth.sig.returnType = none) (hlocks : meth.locks = false) (hd : decode cc pc = .ok (.return_, 1)) (hP : va_P G.1 vwCl ws1 H) (hS : va_S (wA ws0) s.heap H locs) : W p l e R s m args below meth c H locs 0 0 (MQ below (QW G ws0 none ws1) args s 0 0 (wA ws0)) (F0 m pc ls []) :=
  W.vret cx.1 cx.2.1 hr (fun t ht _ => ⟨⟨rfl, by rw [ht]; exact hP⟩, hS.F ht⟩) hS.2.2 hd hlocks
section CALLS
variable {y : MethodName} {bytes : ByteArray} {maxL index n fr lo : Nat} {ret : Option FieldType} {ws' : List Cond} {C : String} {b : Addr} {As : List Value} {ws0 ws1 : va_W}
theorem RO.callV {v : Int32} (cx : CallFix p m c cc nL s args Ts own) (hM : RO l y wsy fr lo G ws0 (.ref b :: As) v) (hG : GoodIn Ts (wsV own index C y wsy)) (hw : wsy = Cond.code y bytes maxL ret :: ws')
    (hd : y.cls = C ∧ y.cls ≠ "java/lang/invoke/MethodHandle" ∧ y.cls ≠ "java/lang/invoke/VarHandle" ∧ (parseMethodDescriptor y.desc).map (fun d => d.parameters.length) = some n) (hR : fr + 1 ≤ R.frames ∧ 8 + (maxL + 11) + lo ≤ R.locals)
    (hrecv : ∃ cell : Cell, H[b]? = some cell ∧ cell.vm.isStatics = false ∧ s.vm.findClass C = some cell.cls) (hK : va_K G.1 vwCl (T3 G) s) (hP : va_P G.1 vwCl ws0 H) (hn : As.length = n) (hsize : ls.size = nL) (hst : st0 = As.reverse ++ .ref b :: rest) (hroom : (rest.map fun v => v.category).sum ≤ 8) (hdg : decode cc pc = .ok (.invokevirtual index, 3)) (hcs : cells ≤ R.cells ∧ slots ≤ R.slots)
    (kk : W p l e R s m args below meth c H locs cells slots Q (F0 m (pc + 3) ls (.int v :: rest))) : W p l e R s m args below meth c H locs cells slots Q (F0 m pc ls st0) :=
  vp_callSi (W.runV cx hM (cwV n cx.2.2.2.2 hG hw rfl rfl hd hR) ⟨Wd.bl, hrecv, fun U hU hW => ⟨rfl, by rw [hU]; exact hP, va_K.moved hW.alike hK⟩⟩ rfl hn hsize hst (lv_room hroom) hdg hcs) (fun r hr => by subst hr; exact kk)
theorem RO.callS {v : Int32} (cx : CallFix p m c cc nL s args Ts own) (hM : RO l y wsy fr lo G ws0 As v) (hG : GoodIn Ts (va_wsS own index y wsy)) (hw : wsy = Cond.code y bytes maxL ret :: ws')
    (hd : y.cls ≠ "java/lang/invoke/MethodHandle" ∧ y.cls ≠ "java/lang/invoke/VarHandle" ∧ (parseMethodDescriptor y.desc).map (fun d => d.parameters.length) = some n) (hR : fr + 1 ≤ R.frames ∧ 8 + (maxL + 11) + lo ≤ R.locals)
    (hK : va_K G.1 vwCl (T3 G) s) (hP : va_P G.1 vwCl ws0 H) (hn : As.length = n) (hsize : ls.size = nL) (hst : st0 = As.reverse ++ rest) (hroom : (rest.map fun v => v.category).sum ≤ 8) (hdg : decode cc pc = .ok (.invokestatic index, 3)) (hcs : cells ≤ R.cells ∧ slots ≤ R.slots)
    (kk : W p l e R s m args below meth c H locs cells slots Q (F0 m (pc + 3) ls (.int v :: rest))) : W p l e R s m args below meth c H locs cells slots Q (F0 m pc ls st0) :=
  vp_callSi (W.runS cx hM (va_cwS n cx.2.2.2.2 hG hw rfl rfl hd hR) ⟨Wd.bl, fun U hU hW => ⟨rfl, by rw [hU]; exact hP, va_K.moved hW.alike hK⟩⟩ rfl hn hsize hst (lv_room hroom) hdg hcs) (fun r hr => by subst hr; exact kk)
theorem WR.callV {v : Option Value} (cx : CallFix p m c cc nL s args Ts own) (hM : WR l y wsy fr lo G ws0 (.ref b :: As) v ws1) (hG : GoodIn Ts (wsV own index C y wsy)) (hw : wsy = Cond.code y bytes maxL ret :: ws')
    (hd : y.cls = C ∧ y.cls ≠ "java/lang/invoke/MethodHandle" ∧ y.cls ≠ "java/lang/invoke/VarHandle" ∧ (parseMethodDescriptor y.desc).map (fun d => d.parameters.length) = some n) (hR : fr + 1 ≤ R.frames ∧ 8 + (maxL + 11) + lo ≤ R.locals)
    (hrecv : ∃ cell : Cell, H[b]? = some cell ∧ cell.vm.isStatics = false ∧ s.vm.findClass C = some cell.cls) (hK : va_K G.1 vwCl (T3 G) s) (hP : va_P G.1 vwCl ws0 H) {A9 : Nat → Prop} (hD : va_D A9 ws0) (hS : va_S A0 H0 H locs) (hA : ∀ q, wA ws0 q → A0 q) (hn : As.length = n) (hsize : ls.size = nL) (hst : st0 = As.reverse ++ .ref b :: rest) (hroom : (rest.map fun v => v.category).sum ≤ 8) (hdg : decode cc pc = .ok (.invokevirtual index, 3)) (hcs : cells ≤ R.cells ∧ slots ≤ R.slots)
    (kk : ∀ (H1 : Heap) (locs1 : List Loc), va_P G.1 vwCl ws1 H1 → (∀ q : Nat, q < H.size → ¬ wA ws0 q → H1[q]? = H[q]?) → va_S A0 H0 H1 locs1 → W p l e R s m args below meth c H1 locs1 cells slots Q (F0 m (pc + 3) ls (v.toList ++ rest))) : W p l e R s m args below meth c H locs cells slots Q (F0 m pc ls st0) := by
  have hr := W.runV (mc := 0) (ms := 0) (rest := rest) (g := F0 m pc ls st0) (H := H) (locs := locs) (cells := cells) (slots := slots) (below := below) (meth := meth) (p := p) (e := e) cx hM (cwV n cx.2.2.2.2 hG hw rfl rfl hd hR) ⟨Wd.bl2, hrecv, fun U hU hW => ⟨rfl, ⟨by rw [hU]; exact hP, va_K.moved hW.alike hK⟩, hD.weaken (fun _ _ _ _ => trivial)⟩⟩ rfl hn hsize hst (lv_room hroom) hdg hcs
  intro T hT X
  obtain ⟨v1, st₀, t, T', L, h0, X', hL, e1, ⟨⟨hv, hp⟩, hz, hk⟩, st⟩ := hr T hT X
  cases hv
  rw [h0] at hz hk
  obtain ⟨t2, a1, b1⟩ := kk T'.heap (locs ++ L) (by rw [e1]; exact hp) (fun q h1 h2 => by rw [e1]; exact hk q h1 h2)
    ⟨Nat.le_trans hS.1 (by rw [e1]; exact hz), fun q h1 h2 => by rw [e1, hk q (Nat.lt_of_lt_of_le h1 hS.1) (fun z => h2 (hA q z))]; exact hS.2.1 q h1 h2, fun q hq => by
      rcases List.mem_append.mp hq with h | h
      · exact hS.2.2 q h
      · exact hA _ (hL q h)⟩ T' rfl X'
  exact ⟨t2, st t2 a1, b1⟩
end CALLS
theorem nv_eqi {x y : Int32} (h : x = y) (k : W p l e R s m args below meth c H locs cells slots Q (F0 m pc ls (.int y :: rest))) : W p l e R s m args below meth c H locs cells slots Q (F0 m pc ls (.int x :: rest)) := by rw [h]; exact k
theorem nv_iadd (cx : CallFix p m c cc nL s args Ts own) {a b : Nat} (hdg : decode cc pc = .ok (.iadd, 1)) (k : W p l e R s m args below meth c H locs cells slots Q (F0 m (pc + 1) ls (.int (nI (a + b)) :: rest))) : W p l e R s m args below meth c H locs cells slots Q (F0 m pc ls (.int (nI b) :: .int (nI a) :: rest)) :=
  lv_iadd cx.1 cx.2.1 hdg (by rw [nI_add]; exact k)
theorem nv_imul (cx : CallFix p m c cc nL s args Ts own) {a b : Nat} (hdg : decode cc pc = .ok (.imul, 1)) (k : W p l e R s m args below meth c H locs cells slots Q (F0 m (pc + 1) ls (.int (nI (a * b)) :: rest))) : W p l e R s m args below meth c H locs cells slots Q (F0 m pc ls (.int (nI b) :: .int (nI a) :: rest)) :=
  lv_imul cx.1 cx.2.1 hdg (by rw [pk_mul]; exact k)
theorem nv_isub (cx : CallFix p m c cc nL s args Ts own) {a b : Nat} (h : b ≤ a) (hdg : decode cc pc = .ok (.isub, 1)) (k : W p l e R s m args below meth c H locs cells slots Q (F0 m (pc + 1) ls (.int (nI (a - b)) :: rest))) : W p l e R s m args below meth c H locs cells slots Q (F0 m pc ls (.int (nI b) :: .int (nI a) :: rest)) :=
  lv_isub cx.1 cx.2.1 hdg (by rw [pk_sub h]; exact k)
theorem nv_icmp_eq (cx : CallFix p m c cc nL s args Ts own) {a b : Nat} {off : Int} {tgt : Nat} (hdg : decode cc pc = .ok (.if_icmp .eq off, 3)) (ht : (pc : Int) + off = (tgt : Int)) (ha : a < 2147483648) (hb : b < 2147483648)
    (kt : a = b → W p l e R s m args below meth c H locs cells slots Q (F0 m tgt ls rest)) (kf : ¬ a = b → W p l e R s m args below meth c H locs cells slots Q (F0 m (pc + 3) ls rest)) : W p l e R s m args below meth c H locs cells slots Q (F0 m pc ls (.int (nI b) :: .int (nI a) :: rest)) :=
  lv_icmp_eq cx.1 cx.2.1 hdg ht (fun h => kt ((nI_eq ha hb).mp h)) (fun h => kf (fun q => h ((nI_eq ha hb).mpr q)))
theorem nv_icmp_ne (cx : CallFix p m c cc nL s args Ts own) {a b : Nat} {off : Int} {tgt : Nat} (hdg : decode cc pc = .ok (.if_icmp .ne off, 3)) (ht : (pc : Int) + off = (tgt : Int)) (ha : a < 2147483648) (hb : b < 2147483648)
    (kt : ¬ a = b → W p l e R s m args below meth c H locs cells slots Q (F0 m tgt ls rest)) (kf : a = b → W p l e R s m args below meth c H locs cells slots Q (F0 m (pc + 3) ls rest)) : W p l e R s m args below meth c H locs cells slots Q (F0 m pc ls (.int (nI b) :: .int (nI a) :: rest)) :=
  lv_icmp_ne cx.1 cx.2.1 hdg ht (fun h => kt (fun q => h ((nI_eq ha hb).mpr q))) (fun h => kf ((nI_eq ha hb).mp h))
theorem nv_icmp_lt (cx : CallFix p m c cc nL s args Ts own) {a b : Nat} {off : Int} {tgt : Nat} (hdg : decode cc pc = .ok (.if_icmp .lt off, 3)) (ht : (pc : Int) + off = (tgt : Int)) (ha : a < 2147483648) (hb : b < 2147483648)
    (kt : a < b → W p l e R s m args below meth c H locs cells slots Q (F0 m tgt ls rest)) (kf : b ≤ a → W p l e R s m args below meth c H locs cells slots Q (F0 m (pc + 3) ls rest)) : W p l e R s m args below meth c H locs cells slots Q (F0 m pc ls (.int (nI b) :: .int (nI a) :: rest)) :=
  lv_icmp_lt cx.1 cx.2.1 hdg ht (fun h => kt ((nI_ltI ha hb).mp h)) (fun h => kf (Nat.le_of_not_lt fun q => h ((nI_ltI ha hb).mpr q)))
theorem nv_icmp_ge (cx : CallFix p m c cc nL s args Ts own) {a b : Nat} {off : Int} {tgt : Nat} (hdg : decode cc pc = .ok (.if_icmp .ge off, 3)) (ht : (pc : Int) + off = (tgt : Int)) (ha : a < 2147483648) (hb : b < 2147483648)
    (kt : b ≤ a → W p l e R s m args below meth c H locs cells slots Q (F0 m tgt ls rest)) (kf : a < b → W p l e R s m args below meth c H locs cells slots Q (F0 m (pc + 3) ls rest)) : W p l e R s m args below meth c H locs cells slots Q (F0 m pc ls (.int (nI b) :: .int (nI a) :: rest)) :=
  lv_icmp_ge cx.1 cx.2.1 hdg ht (fun h => kt ((nI_leI hb ha).mp h)) (fun h => kf (Nat.lt_of_not_le fun q => h ((nI_leI hb ha).mpr q)))
theorem nv_icmp_gt (cx : CallFix p m c cc nL s args Ts own) {a b : Nat} {off : Int} {tgt : Nat} (hdg : decode cc pc = .ok (.if_icmp .gt off, 3)) (ht : (pc : Int) + off = (tgt : Int)) (ha : a < 2147483648) (hb : b < 2147483648)
    (kt : b < a → W p l e R s m args below meth c H locs cells slots Q (F0 m tgt ls rest)) (kf : a ≤ b → W p l e R s m args below meth c H locs cells slots Q (F0 m (pc + 3) ls rest)) : W p l e R s m args below meth c H locs cells slots Q (F0 m pc ls (.int (nI b) :: .int (nI a) :: rest)) :=
  lv_icmp_gt cx.1 cx.2.1 hdg ht (fun h => kt ((nI_ltI hb ha).mp h)) (fun h => kf (Nat.le_of_not_lt fun q => h ((nI_ltI hb ha).mpr q)))
theorem nv_icmp_le (cx : CallFix p m c cc nL s args Ts own) {a b : Nat} {off : Int} {tgt : Nat} (hdg : decode cc pc = .ok (.if_icmp .le off, 3)) (ht : (pc : Int) + off = (tgt : Int)) (ha : a < 2147483648) (hb : b < 2147483648)
    (kt : a ≤ b → W p l e R s m args below meth c H locs cells slots Q (F0 m tgt ls rest)) (kf : b < a → W p l e R s m args below meth c H locs cells slots Q (F0 m (pc + 3) ls rest)) : W p l e R s m args below meth c H locs cells slots Q (F0 m pc ls (.int (nI b) :: .int (nI a) :: rest)) :=
  lv_icmp_le cx.1 cx.2.1 hdg ht (fun h => kt ((nI_leI ha hb).mp h)) (fun h => kf (Nat.lt_of_not_le fun q => h ((nI_leI ha hb).mpr q)))
theorem nI_z {a : Nat} (ha : a < 2147483648) : nI a = 0 ↔ a = 0 := nI_eq (b := 0) ha (by decide)
theorem nv_if_eq (cx : CallFix p m c cc nL s args Ts own) {a : Nat} {off : Int} {tgt : Nat} (hdg : decode cc pc = .ok (.ifCond .eq off, 3)) (ht : (pc : Int) + off = (tgt : Int)) (ha : a < 2147483648)
    (kt : a = 0 → W p l e R s m args below meth c H locs cells slots Q (F0 m tgt ls rest)) (kf : ¬ a = 0 → W p l e R s m args below meth c H locs cells slots Q (F0 m (pc + 3) ls rest)) : W p l e R s m args below meth c H locs cells slots Q (F0 m pc ls (.int (nI a) :: rest)) :=
  lv_if_eq cx.1 cx.2.1 hdg ht (fun h => kt ((nI_z ha).mp h)) (fun h => kf (fun q => h ((nI_z ha).mpr q)))
theorem nv_if_ne (cx : CallFix p m c cc nL s args Ts own) {a : Nat} {off : Int} {tgt : Nat} (hdg : decode cc pc = .ok (.ifCond .ne off, 3)) (ht : (pc : Int) + off = (tgt : Int)) (ha : a < 2147483648)
    (kt : ¬ a = 0 → W p l e R s m args below meth c H locs cells slots Q (F0 m tgt ls rest)) (kf : a = 0 → W p l e R s m args below meth c H locs cells slots Q (F0 m (pc + 3) ls rest)) : W p l e R s m args below meth c H locs cells slots Q (F0 m pc ls (.int (nI a) :: rest)) :=
  lv_if_ne cx.1 cx.2.1 hdg ht (fun h => kt (fun q => h ((nI_z ha).mpr q))) (fun h => kf ((nI_z ha).mp h))
theorem nv_if_lt (cx : CallFix p m c cc nL s args Ts own) {a : Nat} {off : Int} (hdg : decode cc pc = .ok (.ifCond .lt off, 3)) {tgt : Nat} (ht : (pc : Int) + off = (tgt : Int)) (ha : a < 2147483648)
    (kf : W p l e R s m args below meth c H locs cells slots Q (F0 m (pc + 3) ls rest)) : W p l e R s m args below meth c H locs cells slots Q (F0 m pc ls (.int (nI a) :: rest)) :=
  lv_if_lt cx.1 cx.2.1 hdg ht (fun h => absurd h (nI_pos ha)) (fun _ => kf)
theorem nv_if_ge (cx : CallFix p m c cc nL s args Ts own) {a : Nat} {off : Int} (hdg : decode cc pc = .ok (.ifCond .ge off, 3)) {tgt : Nat} (ht : (pc : Int) + off = (tgt : Int)) (ha : a < 2147483648)
    (kt : W p l e R s m args below meth c H locs cells slots Q (F0 m tgt ls rest)) : W p l e R s m args below meth c H locs cells slots Q (F0 m pc ls (.int (nI a) :: rest)) :=
  lv_if_ge cx.1 cx.2.1 hdg ht (fun _ => kt) (fun h => absurd (nI_pos' ha) h)
theorem nI_gz {a : Nat} (ha : a < 2147483648) : 0 < nI a ↔ 0 < a := nI_ltI (a := 0) (by decide) ha
theorem nv_if_gt (cx : CallFix p m c cc nL s args Ts own) {a : Nat} {off : Int} {tgt : Nat} (hdg : decode cc pc = .ok (.ifCond .gt off, 3)) (ht : (pc : Int) + off = (tgt : Int)) (ha : a < 2147483648)
    (kt : 0 < a → W p l e R s m args below meth c H locs cells slots Q (F0 m tgt ls rest)) (kf : a = 0 → W p l e R s m args below meth c H locs cells slots Q (F0 m (pc + 3) ls rest)) : W p l e R s m args below meth c H locs cells slots Q (F0 m pc ls (.int (nI a) :: rest)) :=
  lv_if_gt cx.1 cx.2.1 hdg ht (fun h => kt ((nI_gz ha).mp h)) (fun h => kf (Nat.eq_zero_of_not_pos fun q => h ((nI_gz ha).mpr q)))
theorem nv_if_le (cx : CallFix p m c cc nL s args Ts own) {a : Nat} {off : Int} {tgt : Nat} (hdg : decode cc pc = .ok (.ifCond .le off, 3)) (ht : (pc : Int) + off = (tgt : Int)) (ha : a < 2147483648)
    (kt : a = 0 → W p l e R s m args below meth c H locs cells slots Q (F0 m tgt ls rest)) (kf : 0 < a → W p l e R s m args below meth c H locs cells slots Q (F0 m (pc + 3) ls rest)) : W p l e R s m args below meth c H locs cells slots Q (F0 m pc ls (.int (nI a) :: rest)) :=
  lv_if_le cx.1 cx.2.1 hdg ht (fun h => kt (Nat.eq_zero_of_not_pos fun q => by
    have h2 := (nI_gz ha).mpr q
    rw [Int32.lt_iff_toInt_lt] at h2
    rw [Int32.le_iff_toInt_le] at h
    omega)) (fun h => kf (Nat.pos_of_ne_zero fun q => h (by subst q; exact (by decide))))
theorem nv_ifz (cx : CallFix p m c cc nL s args Ts own) {b : Bool} {off : Int} {tgt : Nat} (hdg : decode cc pc = .ok (.ifCond .eq off, 3)) (ht : (pc : Int) + off = (tgt : Int))
    (kt : b = false → W p l e R s m args below meth c H locs cells slots Q (F0 m tgt ls rest)) (kf : b = true → W p l e R s m args below meth c H locs cells slots Q (F0 m (pc + 3) ls rest)) : W p l e R s m args below meth c H locs cells slots Q (F0 m pc ls (.int (b2i b) :: rest)) :=
  lv_if_eq cx.1 cx.2.1 hdg ht (fun h => kt (b2i_0.mp h)) (fun h => kf (by cases b <;> first | rfl | exact absurd rfl h))
theorem nv_ifnz (cx : CallFix p m c cc nL s args Ts own) {b : Bool} {off : Int} {tgt : Nat} (hdg : decode cc pc = .ok (.ifCond .ne off, 3)) (ht : (pc : Int) + off = (tgt : Int))
    (kt : b = true → W p l e R s m args below meth c H locs cells slots Q (F0 m tgt ls rest)) (kf : b = false → W p l e R s m args below meth c H locs cells slots Q (F0 m (pc + 3) ls rest)) : W p l e R s m args below meth c H locs cells slots Q (F0 m pc ls (.int (b2i b) :: rest)) :=
  lv_if_ne cx.1 cx.2.1 hdg ht (fun h => kt (by cases b <;> first | rfl | exact absurd rfl h)) (fun h => kf (b2i_0.mp h))
section ARR
variable {D : va_G} {cl : List vw_C} {A : Nat → Prop} {a : Nat} {tys : List (ClassId × FieldType)} {ws : va_W}
theorem nv_iald (cx : CallFix p m c cc nL s args Ts own) (hK : va_K D cl tys s) (hP : va_P D cl ws H) (q0 t0 : Nat) {cA : ClassId} {n : Nat} {f : Nat → Int32} (ha : ws[q0]? = some (a, .inl (cA, n, .inl f))) (ht : tys[t0]? = some (cA, .int)) {j : Nat} (hj : j < n) (hn : n < 2147483648) (hdg : decode cc pc = .ok (.iaload, 1))
    (kk : W p l e R s m args below meth c H locs cells slots Q (F0 m (pc + 1) ls (.int (f j) :: rest))) : W p l e R s m args below meth c H locs cells slots Q (F0 m pc ls (.int (nI j) :: .ref a :: rest)) :=
  va_iald cx.1 cx.2.1 hK hP q0 t0 ha ht (vp_in_nI hj hn) hdg (by rw [nI_clamp (Nat.lt_trans hj hn)]; exact kk)
theorem nv_cald (cx : CallFix p m c cc nL s args Ts own) (hK : va_K D cl tys s) (hP : va_P D cl ws H) (q0 t0 : Nat) {cA : ClassId} {n : Nat} {f : Nat → Int32} (ha : ws[q0]? = some (a, .inl (cA, n, .inl f))) (ht : tys[t0]? = some (cA, .char)) {j : Nat} (hj : j < n) (hn : n < 2147483648) (hdg : decode cc pc = .ok (.caload, 1))
    (kk : W p l e R s m args below meth c H locs cells slots Q (F0 m (pc + 1) ls (.int (f j) :: rest))) : W p l e R s m args below meth c H locs cells slots Q (F0 m pc ls (.int (nI j) :: .ref a :: rest)) :=
  va_cald cx.1 cx.2.1 hK hP q0 t0 ha ht (vp_in_nI hj hn) hdg (by rw [nI_clamp (Nat.lt_trans hj hn)]; exact kk)
theorem nv_iast (cx : CallFix p m c cc nL s args Ts own) (hK : va_K D cl tys s) (hP : va_P D cl ws H) (hD : va_D A ws) (hS : va_S A H0 H locs) (q0 t0 : Nat) {cA : ClassId} {n : Nat} {f : Nat → Int32} (ha : ws[q0]? = some (a, .inl (cA, n, .inl f))) (ht : tys[t0]? = some (cA, .int)) {j : Nat} {x : Int32} (hj : j < n) (hn : n < 2147483648) (hdg : decode cc pc = .ok (.iastore, 1)) {ws1 : va_W} (hw1 : ws.set q0 (a, .inl (cA, n, .inl (upd f j x))) = ws1)
    (kk : ∀ (H1 : Heap) (locs1 : List Loc), va_P D cl ws1 H1 → va_D A ws1 → va_S A H0 H1 locs1 → W p l e R s m args below meth c H1 locs1 cells slots Q (F0 m (pc + 1) ls rest)) : W p l e R s m args below meth c H locs cells slots Q (F0 m pc ls (.int x :: .int (nI j) :: .ref a :: rest)) :=
  va_iast cx.1 cx.2.1 hK hP hD hS q0 t0 ha ht (vp_in_nI hj hn) hdg (fun H1 locs1 h1 h2 h3 => by rw [nI_clamp (Nat.lt_trans hj hn), hw1] at h1 h2; exact kk H1 locs1 h1 h2 h3)
theorem nv_cast (cx : CallFix p m c cc nL s args Ts own) (hK : va_K D cl tys s) (hP : va_P D cl ws H) (hD : va_D A ws) (hS : va_S A H0 H locs) (q0 t0 : Nat) {cA : ClassId} {n : Nat} {f : Nat → Int32} (ha : ws[q0]? = some (a, .inl (cA, n, .inl f))) (ht : tys[t0]? = some (cA, .char)) {j : Nat} {x : Int32} (hx : narrow .char (.int x) = .int x) (hj : j < n) (hn : n < 2147483648) (hdg : decode cc pc = .ok (.castore, 1)) {ws1 : va_W} (hw1 : ws.set q0 (a, .inl (cA, n, .inl (upd f j x))) = ws1)
    (kk : ∀ (H1 : Heap) (locs1 : List Loc), va_P D cl ws1 H1 → va_D A ws1 → va_S A H0 H1 locs1 → W p l e R s m args below meth c H1 locs1 cells slots Q (F0 m (pc + 1) ls rest)) : W p l e R s m args below meth c H locs cells slots Q (F0 m pc ls (.int x :: .int (nI j) :: .ref a :: rest)) :=
  va_cast cx.1 cx.2.1 hK hP hD hS q0 t0 ha ht (vp_in_nI hj hn) hdg (fun H1 locs1 h1 h2 h3 => by rw [nI_clamp (Nat.lt_trans hj hn), show vp_nar .char x = x by simp [vp_nar, hx], hw1] at h1 h2; exact kk H1 locs1 h1 h2 h3)
end ARR
end NV
theorem cell_row (cA : ClassId) {n : Nat} {f g : Nat → Int32} (h : ∀ j, j < n → f j = g j) : vp_cell cA (n, .inl f) = vp_cell cA (n, .inl g) := by
  rw [vp_cell_i, vp_cell_i]
  unfold arrV
  congr 1
  apply Array.ext
  · simp
  · intro i h1 h2
    simp only [Array.size_ofFn] at h1
    simp [h i h1]
theorem va_P.row {D : va_G} {cl : List vw_C} {ws : va_W} {H : Heap} (hP : va_P D cl ws H) (q0 : Nat) {a : Nat} {cA : ClassId} {n : Nat} {f g : Nat → Int32} (ha : ws[q0]? = some (a, .inl (cA, n, .inl f))) (h : ∀ j, j < n → f j = g j) {ws1 : va_W} (hw1 : ws.set q0 (a, .inl (cA, n, .inl g)) = ws1) : va_P D cl ws1 H := by
  subst hw1
  intro k q hk
  by_cases hkq : k = q0
  · subst hkq
    rw [List.getElem?_set_self (List.getElem?_eq_some_iff.mp ha).1] at hk
    cases hk
    have h1 := hP k _ ha
    show H[a]? = some (vp_cell cA (n, .inl g))
    rw [← cell_row cA h]
    exact h1
  · rw [List.getElem?_set_ne (Ne.symm hkq)] at hk
    exact hP k q hk
theorem va_D.fst {A : Nat → Prop} {ws ws1 : va_W} (hD : va_D A ws) (h : ws1.map Prod.fst = ws.map Prod.fst) : va_D A ws1 := by
  have key : ∀ (k : Nat) (q : Nat × va_E), ws1[k]? = some q → ∃ q0, ws[k]? = some q0 ∧ q0.1 = q.1 := by
    intro k q hk
    have h1 : (ws1.map Prod.fst)[k]? = some q.1 := by rw [List.getElem?_map, hk]; rfl
    rw [h, List.getElem?_map] at h1
    cases h2 : ws[k]? with
    | none => rw [h2] at h1; cases h1
    | some q0 => rw [h2] at h1; exact ⟨q0, rfl, Option.some.inj h1⟩
  refine ⟨fun i j x y hi hj hxy => ?_, fun k q hk => ?_⟩
  · obtain ⟨x0, h1, h2⟩ := key i x hi
    obtain ⟨y0, h3, h4⟩ := key j y hj
    exact hD.1 i j x0 y0 h1 h3 (h2.trans (hxy.trans h4.symm))
  · obtain ⟨q0, h1, h2⟩ := key k q hk
    rw [← h2]
    exact hD.2 k q0 h1
end
section
theorem zz_look : True := trivial
end
